section
-- ===== PART A: goes FIRST, ahead of the names: the tables' words, and 'selects' of the private methods out of them =====
/-- a private method of a class that the tables say can be made, by its rows of tables_1 -/
def lw_okq (q : MethodName × Nat) : Prop := (q.1.cls ≠ "java/lang/invoke/MethodHandle" ∧ q.1.cls ≠ "java/lang/invoke/VarHandle") ∧ Cond.instantiable q.1.cls q.2 ∈ tables_1 ∧ Cond.privateMethod q.1 ∈ tables_1 ∧ Cond.instanceMethod q.1 ∈ tables_1
theorem lw_p0 : lw_okq (⟨"SideWords$Code", "fillRows", "()V"⟩, 9) := ⟨⟨by decide +kernel, by decide +kernel⟩, List.mem_of_getElem? (i := 36) (by decide +kernel), List.mem_of_getElem? (i := 42) (by decide +kernel), List.mem_of_getElem? (i := 43) (by decide +kernel)⟩
theorem lw_p1 : lw_okq (⟨"SideWords$Code", "findBursts", "()V"⟩, 9) := ⟨⟨by decide +kernel, by decide +kernel⟩, List.mem_of_getElem? (i := 36) (by decide +kernel), List.mem_of_getElem? (i := 49) (by decide +kernel), List.mem_of_getElem? (i := 50) (by decide +kernel)⟩
theorem lw_p2 : lw_okq (⟨"SideWords$Code", "noteBurst", "(I)V"⟩, 9) := ⟨⟨by decide +kernel, by decide +kernel⟩, List.mem_of_getElem? (i := 36) (by decide +kernel), List.mem_of_getElem? (i := 53) (by decide +kernel), List.mem_of_getElem? (i := 54) (by decide +kernel)⟩
theorem lw_p3 : lw_okq (⟨"SideWords$Code", "restOf", "(I)I"⟩, 9) := ⟨⟨by decide +kernel, by decide +kernel⟩, List.mem_of_getElem? (i := 36) (by decide +kernel), List.mem_of_getElem? (i := 57) (by decide +kernel), List.mem_of_getElem? (i := 58) (by decide +kernel)⟩
theorem lw_p4 : lw_okq (⟨"SideWords$Shown", "clearNames", "()V"⟩, 9) := ⟨⟨by decide +kernel, by decide +kernel⟩, List.mem_of_getElem? (i := 105) (by decide +kernel), List.mem_of_getElem? (i := 158) (by decide +kernel), List.mem_of_getElem? (i := 159) (by decide +kernel)⟩
theorem lw_p5 : lw_okq (⟨"SideWords$Text", "fits", "(I)Z"⟩, 2) := ⟨⟨by decide +kernel, by decide +kernel⟩, List.mem_of_getElem? (i := 21) (by decide +kernel), List.mem_of_getElem? (i := 295) (by decide +kernel), List.mem_of_getElem? (i := 296) (by decide +kernel)⟩
theorem lw_p6 : lw_okq (⟨"SideWords$Text", "endsNumber", "(I)Z"⟩, 2) := ⟨⟨by decide +kernel, by decide +kernel⟩, List.mem_of_getElem? (i := 21) (by decide +kernel), List.mem_of_getElem? (i := 303) (by decide +kernel), List.mem_of_getElem? (i := 304) (by decide +kernel)⟩
theorem lw_p7 : lw_okq (⟨"SideWords$Shown", "comesBefore", "(II)Z"⟩, 9) := ⟨⟨by decide +kernel, by decide +kernel⟩, List.mem_of_getElem? (i := 105) (by decide +kernel), List.mem_of_getElem? (i := 371) (by decide +kernel), List.mem_of_getElem? (i := 372) (by decide +kernel)⟩
theorem lw_p8 : lw_okq (⟨"SideWords$Receiver", "goOn", "(LSideWords$Code;)Z"⟩, 15) := ⟨⟨by decide +kernel, by decide +kernel⟩, List.mem_of_getElem? (i := 99) (by decide +kernel), List.mem_of_getElem? (i := 469) (by decide +kernel), List.mem_of_getElem? (i := 470) (by decide +kernel)⟩
theorem lw_p9 : lw_okq (⟨"SideWords$Receiver", "takeBlock", "(LSideWords$Code;)V"⟩, 15) := ⟨⟨by decide +kernel, by decide +kernel⟩, List.mem_of_getElem? (i := 99) (by decide +kernel), List.mem_of_getElem? (i := 473) (by decide +kernel), List.mem_of_getElem? (i := 474) (by decide +kernel)⟩
theorem lw_p10 : lw_okq (⟨"SideWords$Receiver", "countBlock", "(I)V"⟩, 15) := ⟨⟨by decide +kernel, by decide +kernel⟩, List.mem_of_getElem? (i := 99) (by decide +kernel), List.mem_of_getElem? (i := 478) (by decide +kernel), List.mem_of_getElem? (i := 479) (by decide +kernel)⟩
theorem lw_p11 : lw_okq (⟨"SideWords$Receiver", "lose", "()V"⟩, 15) := ⟨⟨by decide +kernel, by decide +kernel⟩, List.mem_of_getElem? (i := 99) (by decide +kernel), List.mem_of_getElem? (i := 482) (by decide +kernel), List.mem_of_getElem? (i := 483) (by decide +kernel)⟩
theorem lw_p12 : lw_okq (⟨"SideWords$Receiver", "seekSync", "(LSideWords$Code;)Z"⟩, 15) := ⟨⟨by decide +kernel, by decide +kernel⟩, List.mem_of_getElem? (i := 99) (by decide +kernel), List.mem_of_getElem? (i := 487) (by decide +kernel), List.mem_of_getElem? (i := 488) (by decide +kernel)⟩
theorem lw_p13 : lw_okq (⟨"SideWords$Receiver", "fitsLastHit", "(I)Z"⟩, 15) := ⟨⟨by decide +kernel, by decide +kernel⟩, List.mem_of_getElem? (i := 99) (by decide +kernel), List.mem_of_getElem? (i := 492) (by decide +kernel), List.mem_of_getElem? (i := 493) (by decide +kernel)⟩
theorem lw_p14 : lw_okq (⟨"SideWords$Receiver", "findSync", "(I)V"⟩, 15) := ⟨⟨by decide +kernel, by decide +kernel⟩, List.mem_of_getElem? (i := 99) (by decide +kernel), List.mem_of_getElem? (i := 496) (by decide +kernel), List.mem_of_getElem? (i := 497) (by decide +kernel)⟩
theorem lw_p15 : lw_okq (⟨"SideWords$Shown", "takeProgram", "(I)V"⟩, 9) := ⟨⟨by decide +kernel, by decide +kernel⟩, List.mem_of_getElem? (i := 105) (by decide +kernel), List.mem_of_getElem? (i := 504) (by decide +kernel), List.mem_of_getElem? (i := 505) (by decide +kernel)⟩
def lw_privs_1 : List (MethodName × Nat) := [(⟨"SideWords$Code", "fillRows", "()V"⟩, 9), (⟨"SideWords$Code", "findBursts", "()V"⟩, 9), (⟨"SideWords$Code", "noteBurst", "(I)V"⟩, 9), (⟨"SideWords$Code", "restOf", "(I)I"⟩, 9), (⟨"SideWords$Shown", "clearNames", "()V"⟩, 9), (⟨"SideWords$Text", "fits", "(I)Z"⟩, 2), (⟨"SideWords$Text", "endsNumber", "(I)Z"⟩, 2), (⟨"SideWords$Shown", "comesBefore", "(II)Z"⟩, 9), (⟨"SideWords$Receiver", "goOn", "(LSideWords$Code;)Z"⟩, 15), (⟨"SideWords$Receiver", "takeBlock", "(LSideWords$Code;)V"⟩, 15), (⟨"SideWords$Receiver", "countBlock", "(I)V"⟩, 15), (⟨"SideWords$Receiver", "lose", "()V"⟩, 15), (⟨"SideWords$Receiver", "seekSync", "(LSideWords$Code;)Z"⟩, 15), (⟨"SideWords$Receiver", "fitsLastHit", "(I)Z"⟩, 15), (⟨"SideWords$Receiver", "findSync", "(I)V"⟩, 15), (⟨"SideWords$Shown", "takeProgram", "(I)V"⟩, 9)]
theorem lw_r1 : ∀ q ∈ lw_privs_1, lw_okq q := List.forall_mem_cons.mpr ⟨lw_p0, List.forall_mem_cons.mpr ⟨lw_p1, List.forall_mem_cons.mpr ⟨lw_p2, List.forall_mem_cons.mpr ⟨lw_p3, List.forall_mem_cons.mpr ⟨lw_p4, List.forall_mem_cons.mpr ⟨lw_p5, List.forall_mem_cons.mpr ⟨lw_p6, List.forall_mem_cons.mpr ⟨lw_p7, List.forall_mem_cons.mpr ⟨lw_p8, List.forall_mem_cons.mpr ⟨lw_p9, List.forall_mem_cons.mpr ⟨lw_p10, List.forall_mem_cons.mpr ⟨lw_p11, List.forall_mem_cons.mpr ⟨lw_p12, List.forall_mem_cons.mpr ⟨lw_p13, List.forall_mem_cons.mpr ⟨lw_p14, List.forall_mem_cons.mpr ⟨lw_p15, fun _ h => absurd h List.not_mem_nil⟩⟩⟩⟩⟩⟩⟩⟩⟩⟩⟩⟩⟩⟩⟩⟩
theorem lw_p16 : lw_okq (⟨"SideWords$Shown", "takePair", "(III)V"⟩, 9) := ⟨⟨by decide +kernel, by decide +kernel⟩, List.mem_of_getElem? (i := 105) (by decide +kernel), List.mem_of_getElem? (i := 508) (by decide +kernel), List.mem_of_getElem? (i := 509) (by decide +kernel)⟩
theorem lw_p17 : lw_okq (⟨"SideWords$Shown", "takeClock", "(II)V"⟩, 9) := ⟨⟨by decide +kernel, by decide +kernel⟩, List.mem_of_getElem? (i := 105) (by decide +kernel), List.mem_of_getElem? (i := 512) (by decide +kernel), List.mem_of_getElem? (i := 513) (by decide +kernel)⟩
theorem lw_p18 : lw_okq (⟨"SideWords$Shown", "takeStation", "(I)V"⟩, 9) := ⟨⟨by decide +kernel, by decide +kernel⟩, List.mem_of_getElem? (i := 105) (by decide +kernel), List.mem_of_getElem? (i := 516) (by decide +kernel), List.mem_of_getElem? (i := 517) (by decide +kernel)⟩
theorem lw_p19 : lw_okq (⟨"SideWords$Shown", "takeFlag", "(I)V"⟩, 9) := ⟨⟨by decide +kernel, by decide +kernel⟩, List.mem_of_getElem? (i := 105) (by decide +kernel), List.mem_of_getElem? (i := 521) (by decide +kernel), List.mem_of_getElem? (i := 522) (by decide +kernel)⟩
theorem lw_p20 : lw_okq (⟨"SideWords", "hearGroups", "(LSideWords$Receiver;II)V"⟩, 12) := ⟨⟨by decide +kernel, by decide +kernel⟩, List.mem_of_getElem? (i := 13) (by decide +kernel), List.mem_of_getElem? (i := 534) (by decide +kernel), List.mem_of_getElem? (i := 535) (by decide +kernel)⟩
theorem lw_p21 : lw_okq (⟨"SideWords", "freshTrial", "()LSideWords$Receiver;"⟩, 12) := ⟨⟨by decide +kernel, by decide +kernel⟩, List.mem_of_getElem? (i := 13) (by decide +kernel), List.mem_of_getElem? (i := 563) (by decide +kernel), List.mem_of_getElem? (i := 564) (by decide +kernel)⟩
theorem lw_p22 : lw_okq (⟨"SideWords", "isSo", "(LSideWords$Receiver;I)Z"⟩, 12) := ⟨⟨by decide +kernel, by decide +kernel⟩, List.mem_of_getElem? (i := 13) (by decide +kernel), List.mem_of_getElem? (i := 580) (by decide +kernel), List.mem_of_getElem? (i := 581) (by decide +kernel)⟩
theorem lw_p23 : lw_okq (⟨"SideWords", "canHear", "(LSideWords$Receiver;II)Z"⟩, 12) := ⟨⟨by decide +kernel, by decide +kernel⟩, List.mem_of_getElem? (i := 13) (by decide +kernel), List.mem_of_getElem? (i := 584) (by decide +kernel), List.mem_of_getElem? (i := 585) (by decide +kernel)⟩
theorem lw_p24 : lw_okq (⟨"SideWords", "placesFitting", "(IJ)J"⟩, 12) := ⟨⟨by decide +kernel, by decide +kernel⟩, List.mem_of_getElem? (i := 13) (by decide +kernel), List.mem_of_getElem? (i := 604) (by decide +kernel), List.mem_of_getElem? (i := 605) (by decide +kernel)⟩
theorem lw_p25 : lw_okq (⟨"SideWords", "goodBehind", "(II)I"⟩, 12) := ⟨⟨by decide +kernel, by decide +kernel⟩, List.mem_of_getElem? (i := 13) (by decide +kernel), List.mem_of_getElem? (i := 616) (by decide +kernel), List.mem_of_getElem? (i := 617) (by decide +kernel)⟩
theorem lw_p26 : lw_okq (⟨"SideWords", "drawnWord", "(II)I"⟩, 12) := ⟨⟨by decide +kernel, by decide +kernel⟩, List.mem_of_getElem? (i := 13) (by decide +kernel), List.mem_of_getElem? (i := 649) (by decide +kernel), List.mem_of_getElem? (i := 650) (by decide +kernel)⟩
theorem lw_p27 : lw_okq (⟨"SideWordsModel", "layBursts", "()V"⟩, 27) := ⟨⟨by decide +kernel, by decide +kernel⟩, List.mem_of_getElem? (i := 664) (by decide +kernel), List.mem_of_getElem? (i := 670) (by decide +kernel), List.mem_of_getElem? (i := 671) (by decide +kernel)⟩
theorem lw_p28 : lw_okq (⟨"SideWordsModel", "left", "(I)I"⟩, 27) := ⟨⟨by decide +kernel, by decide +kernel⟩, List.mem_of_getElem? (i := 664) (by decide +kernel), List.mem_of_getElem? (i := 680) (by decide +kernel), List.mem_of_getElem? (i := 681) (by decide +kernel)⟩
theorem lw_p29 : lw_okq (⟨"SideWordsModel", "fresh", "()V"⟩, 27) := ⟨⟨by decide +kernel, by decide +kernel⟩, List.mem_of_getElem? (i := 664) (by decide +kernel), List.mem_of_getElem? (i := 684) (by decide +kernel), List.mem_of_getElem? (i := 685) (by decide +kernel)⟩
theorem lw_p30 : lw_okq (⟨"SideWordsModel", "readText", "()I"⟩, 27) := ⟨⟨by decide +kernel, by decide +kernel⟩, List.mem_of_getElem? (i := 664) (by decide +kernel), List.mem_of_getElem? (i := 786) (by decide +kernel), List.mem_of_getElem? (i := 787) (by decide +kernel)⟩
theorem lw_p31 : lw_okq (⟨"SideWordsModel", "take", "(II)Z"⟩, 27) := ⟨⟨by decide +kernel, by decide +kernel⟩, List.mem_of_getElem? (i := 664) (by decide +kernel), List.mem_of_getElem? (i := 790) (by decide +kernel), List.mem_of_getElem? (i := 791) (by decide +kernel)⟩
def lw_privs_2 : List (MethodName × Nat) := [(⟨"SideWords$Shown", "takePair", "(III)V"⟩, 9), (⟨"SideWords$Shown", "takeClock", "(II)V"⟩, 9), (⟨"SideWords$Shown", "takeStation", "(I)V"⟩, 9), (⟨"SideWords$Shown", "takeFlag", "(I)V"⟩, 9), (⟨"SideWords", "hearGroups", "(LSideWords$Receiver;II)V"⟩, 12), (⟨"SideWords", "freshTrial", "()LSideWords$Receiver;"⟩, 12), (⟨"SideWords", "isSo", "(LSideWords$Receiver;I)Z"⟩, 12), (⟨"SideWords", "canHear", "(LSideWords$Receiver;II)Z"⟩, 12), (⟨"SideWords", "placesFitting", "(IJ)J"⟩, 12), (⟨"SideWords", "goodBehind", "(II)I"⟩, 12), (⟨"SideWords", "drawnWord", "(II)I"⟩, 12), (⟨"SideWordsModel", "layBursts", "()V"⟩, 27), (⟨"SideWordsModel", "left", "(I)I"⟩, 27), (⟨"SideWordsModel", "fresh", "()V"⟩, 27), (⟨"SideWordsModel", "readText", "()I"⟩, 27), (⟨"SideWordsModel", "take", "(II)Z"⟩, 27)]
theorem lw_r2 : ∀ q ∈ lw_privs_2, lw_okq q := List.forall_mem_cons.mpr ⟨lw_p16, List.forall_mem_cons.mpr ⟨lw_p17, List.forall_mem_cons.mpr ⟨lw_p18, List.forall_mem_cons.mpr ⟨lw_p19, List.forall_mem_cons.mpr ⟨lw_p20, List.forall_mem_cons.mpr ⟨lw_p21, List.forall_mem_cons.mpr ⟨lw_p22, List.forall_mem_cons.mpr ⟨lw_p23, List.forall_mem_cons.mpr ⟨lw_p24, List.forall_mem_cons.mpr ⟨lw_p25, List.forall_mem_cons.mpr ⟨lw_p26, List.forall_mem_cons.mpr ⟨lw_p27, List.forall_mem_cons.mpr ⟨lw_p28, List.forall_mem_cons.mpr ⟨lw_p29, List.forall_mem_cons.mpr ⟨lw_p30, List.forall_mem_cons.mpr ⟨lw_p31, fun _ h => absurd h List.not_mem_nil⟩⟩⟩⟩⟩⟩⟩⟩⟩⟩⟩⟩⟩⟩⟩⟩
theorem lw_p32 : lw_okq (⟨"SideWordsModel", "isNew", "(II)Z"⟩, 27) := ⟨⟨by decide +kernel, by decide +kernel⟩, List.mem_of_getElem? (i := 664) (by decide +kernel), List.mem_of_getElem? (i := 795) (by decide +kernel), List.mem_of_getElem? (i := 796) (by decide +kernel)⟩
theorem lw_p33 : lw_okq (⟨"SideWordsModel", "tell", "([II)I"⟩, 27) := ⟨⟨by decide +kernel, by decide +kernel⟩, List.mem_of_getElem? (i := 664) (by decide +kernel), List.mem_of_getElem? (i := 809) (by decide +kernel), List.mem_of_getElem? (i := 810) (by decide +kernel)⟩
theorem lw_p34 : lw_okq (⟨"SideWordsModel", "thereAre", "(I)I"⟩, 27) := ⟨⟨by decide +kernel, by decide +kernel⟩, List.mem_of_getElem? (i := 664) (by decide +kernel), List.mem_of_getElem? (i := 824) (by decide +kernel), List.mem_of_getElem? (i := 825) (by decide +kernel)⟩
theorem lw_p35 : lw_okq (⟨"SideWordsModel", "aheadOf", "(I)I"⟩, 27) := ⟨⟨by decide +kernel, by decide +kernel⟩, List.mem_of_getElem? (i := 664) (by decide +kernel), List.mem_of_getElem? (i := 840) (by decide +kernel), List.mem_of_getElem? (i := 841) (by decide +kernel)⟩
theorem lw_p36 : lw_okq (⟨"SideWordsModel", "wordOf", "(II)I"⟩, 27) := ⟨⟨by decide +kernel, by decide +kernel⟩, List.mem_of_getElem? (i := 664) (by decide +kernel), List.mem_of_getElem? (i := 848) (by decide +kernel), List.mem_of_getElem? (i := 849) (by decide +kernel)⟩
theorem lw_p37 : lw_okq (⟨"SideWordsModel", "restOf", "(II)I"⟩, 27) := ⟨⟨by decide +kernel, by decide +kernel⟩, List.mem_of_getElem? (i := 664) (by decide +kernel), List.mem_of_getElem? (i := 857) (by decide +kernel), List.mem_of_getElem? (i := 858) (by decide +kernel)⟩
theorem lw_p38 : lw_okq (⟨"SideWordsModel", "sureOf", "(I)I"⟩, 27) := ⟨⟨by decide +kernel, by decide +kernel⟩, List.mem_of_getElem? (i := 664) (by decide +kernel), List.mem_of_getElem? (i := 865) (by decide +kernel), List.mem_of_getElem? (i := 866) (by decide +kernel)⟩
theorem lw_p39 : lw_okq (⟨"SideWordsModel", "note", "()V"⟩, 27) := ⟨⟨by decide +kernel, by decide +kernel⟩, List.mem_of_getElem? (i := 664) (by decide +kernel), List.mem_of_getElem? (i := 890) (by decide +kernel), List.mem_of_getElem? (i := 891) (by decide +kernel)⟩
theorem lw_p40 : lw_okq (⟨"SideWordsModel", "hearBits", "([III)V"⟩, 27) := ⟨⟨by decide +kernel, by decide +kernel⟩, List.mem_of_getElem? (i := 664) (by decide +kernel), List.mem_of_getElem? (i := 894) (by decide +kernel), List.mem_of_getElem? (i := 895) (by decide +kernel)⟩
theorem lw_p41 : lw_okq (⟨"SideWordsModel", "hearBit", "([II)V"⟩, 27) := ⟨⟨by decide +kernel, by decide +kernel⟩, List.mem_of_getElem? (i := 664) (by decide +kernel), List.mem_of_getElem? (i := 898) (by decide +kernel), List.mem_of_getElem? (i := 899) (by decide +kernel)⟩
theorem lw_p42 : lw_okq (⟨"SideWordsModel", "seek", "([I)V"⟩, 27) := ⟨⟨by decide +kernel, by decide +kernel⟩, List.mem_of_getElem? (i := 664) (by decide +kernel), List.mem_of_getElem? (i := 902) (by decide +kernel), List.mem_of_getElem? (i := 903) (by decide +kernel)⟩
theorem lw_p43 : lw_okq (⟨"SideWordsModel", "block", "([I)V"⟩, 27) := ⟨⟨by decide +kernel, by decide +kernel⟩, List.mem_of_getElem? (i := 664) (by decide +kernel), List.mem_of_getElem? (i := 922) (by decide +kernel), List.mem_of_getElem? (i := 923) (by decide +kernel)⟩
theorem lw_p44 : lw_okq (⟨"SideWordsModel", "hearGroup", "([III)V"⟩, 27) := ⟨⟨by decide +kernel, by decide +kernel⟩, List.mem_of_getElem? (i := 664) (by decide +kernel), List.mem_of_getElem? (i := 940) (by decide +kernel), List.mem_of_getElem? (i := 941) (by decide +kernel)⟩
theorem lw_p45 : lw_okq (⟨"SideWordsModel", "judged", "(III)Z"⟩, 27) := ⟨⟨by decide +kernel, by decide +kernel⟩, List.mem_of_getElem? (i := 664) (by decide +kernel), List.mem_of_getElem? (i := 977) (by decide +kernel), List.mem_of_getElem? (i := 978) (by decide +kernel)⟩
theorem lw_p46 : lw_okq (⟨"SideWordsModel", "isSoBy", "(II)Z"⟩, 27) := ⟨⟨by decide +kernel, by decide +kernel⟩, List.mem_of_getElem? (i := 664) (by decide +kernel), List.mem_of_getElem? (i := 994) (by decide +kernel), List.mem_of_getElem? (i := 995) (by decide +kernel)⟩
def lw_privs_3 : List (MethodName × Nat) := [(⟨"SideWordsModel", "isNew", "(II)Z"⟩, 27), (⟨"SideWordsModel", "tell", "([II)I"⟩, 27), (⟨"SideWordsModel", "thereAre", "(I)I"⟩, 27), (⟨"SideWordsModel", "aheadOf", "(I)I"⟩, 27), (⟨"SideWordsModel", "wordOf", "(II)I"⟩, 27), (⟨"SideWordsModel", "restOf", "(II)I"⟩, 27), (⟨"SideWordsModel", "sureOf", "(I)I"⟩, 27), (⟨"SideWordsModel", "note", "()V"⟩, 27), (⟨"SideWordsModel", "hearBits", "([III)V"⟩, 27), (⟨"SideWordsModel", "hearBit", "([II)V"⟩, 27), (⟨"SideWordsModel", "seek", "([I)V"⟩, 27), (⟨"SideWordsModel", "block", "([I)V"⟩, 27), (⟨"SideWordsModel", "hearGroup", "([III)V"⟩, 27), (⟨"SideWordsModel", "judged", "(III)Z"⟩, 27), (⟨"SideWordsModel", "isSoBy", "(II)Z"⟩, 27)]
theorem lw_r3 : ∀ q ∈ lw_privs_3, lw_okq q := List.forall_mem_cons.mpr ⟨lw_p32, List.forall_mem_cons.mpr ⟨lw_p33, List.forall_mem_cons.mpr ⟨lw_p34, List.forall_mem_cons.mpr ⟨lw_p35, List.forall_mem_cons.mpr ⟨lw_p36, List.forall_mem_cons.mpr ⟨lw_p37, List.forall_mem_cons.mpr ⟨lw_p38, List.forall_mem_cons.mpr ⟨lw_p39, List.forall_mem_cons.mpr ⟨lw_p40, List.forall_mem_cons.mpr ⟨lw_p41, List.forall_mem_cons.mpr ⟨lw_p42, List.forall_mem_cons.mpr ⟨lw_p43, List.forall_mem_cons.mpr ⟨lw_p44, List.forall_mem_cons.mpr ⟨lw_p45, List.forall_mem_cons.mpr ⟨lw_p46, fun _ h => absurd h List.not_mem_nil⟩⟩⟩⟩⟩⟩⟩⟩⟩⟩⟩⟩⟩⟩⟩
def lw_privs : List (MethodName × Nat) := lw_privs_1 ++ (lw_privs_2 ++ (lw_privs_3))
def lw_tbl : List Cond := k2_sels lw_privs ++ tables_1
theorem lw_privs_ok : ∀ q ∈ lw_privs, lw_okq q := by
  show ∀ q ∈ lw_privs_1 ++ (lw_privs_2 ++ (lw_privs_3)), lw_okq q
  exact List.forall_mem_append.mpr ⟨lw_r1, List.forall_mem_append.mpr ⟨lw_r2, lw_r3⟩⟩
end
section
def RX0 : String := "SideWords$Acts"
def TX0 : u_T := fun k => match k with
  | 0 => ("SideWords$Acts", "befores", "[LSideWords$Receiver;", true)
  | 1 => ("SideWords$Acts", "next", "I", false)
  | _ => ("SideWords$Acts", "count", "I", false)
def tyX0 : Nat → FieldType := fun k => match k with
  | 0 => .array (.object "SideWords$Receiver")
  | 1 => .int
  | _ => .int
abbrev wsX00 : List Cond := u_ws RX0 TX0 3
theorem nmX0 : ∀ a, a < 3 → ∀ b, b < 3 → a ≠ b → (TX0 a).2.1 ≠ (TX0 b).2.1 := by decide +kernel
theorem tyX0_ok : ∀ k, k < 3 → parseFieldDescriptor (TX0 k).2.2.1 = some (tyX0 k) := by decide +kernel
abbrev cX0_init : ByteArray := prog_2_method_1_code
def yX0_init : MethodName := ⟨RX0, "<init>", "()V"⟩
abbrev cX0_remember : ByteArray := prog_2_method_2_code
def yX0_remember : MethodName := ⟨RX0, "remember", "(LSideWords$Receiver;)V"⟩
abbrev cX0_takeBack : ByteArray := prog_2_method_3_code
def yX0_takeBack : MethodName := ⟨RX0, "takeBack", "(LSideWords$Receiver;)Z"⟩
abbrev cX0_forget : ByteArray := prog_2_method_4_code
def yX0_forget : MethodName := ⟨RX0, "forget", "()V"⟩
def RX1 : String := "SideWords$Code"
def TX1 : u_T := fun k => match k with
  | 0 => ("SideWords$Code", "offsets", "[I", true)
  | 1 => ("SideWords$Code", "dataRests", "[I", true)
  | 2 => ("SideWords$Code", "offsetOfRest", "[I", true)
  | 3 => ("SideWords$Code", "sureBursts", "[I", true)
  | 4 => ("SideWords$Code", "g", "I", false)
  | 5 => ("SideWords$Code", "longest", "I", false)
  | 6 => ("SideWords$Code", "hold", "I", false)
  | 7 => ("SideWords$Code", "burstCount", "I", false)
  | _ => ("SideWords$Code", "sureCount", "I", false)
def tyX1 : Nat → FieldType := fun k => match k with
  | 0 => .array .int
  | 1 => .array .int
  | 2 => .array .int
  | 3 => .array .int
  | 4 => .int
  | 5 => .int
  | 6 => .int
  | 7 => .int
  | _ => .int
abbrev wsX10 : List Cond := u_ws RX1 TX1 9
theorem nmX1 : ∀ a, a < 9 → ∀ b, b < 9 → a ≠ b → (TX1 a).2.1 ≠ (TX1 b).2.1 := by decide +kernel
theorem tyX1_ok : ∀ k, k < 9 → parseFieldDescriptor (TX1 k).2.2.1 = some (tyX1 k) := by decide +kernel
abbrev cX1_init : ByteArray := prog_3_method_1_code
def yX1_init : MethodName := ⟨RX1, "<init>", "()V"⟩
abbrev cX1_takeFrom : ByteArray := prog_3_method_2_code
def yX1_takeFrom : MethodName := ⟨RX1, "takeFrom", "(LSideWords$Text;)V"⟩
abbrev cX1_fillRows : ByteArray := prog_3_method_3_code
def yX1_fillRows : MethodName := ⟨RX1, "fillRows", "()V"⟩
abbrev cX1_findBursts : ByteArray := prog_3_method_4_code
def yX1_findBursts : MethodName := ⟨RX1, "findBursts", "()V"⟩
abbrev cX1_noteBurst : ByteArray := prog_3_method_5_code
def yX1_noteBurst : MethodName := ⟨RX1, "noteBurst", "(I)V"⟩
abbrev cX1_restOf : ByteArray := prog_3_method_6_code
def yX1_restOf : MethodName := ⟨RX1, "restOf", "(I)I"⟩
abbrev cX1_restFor : ByteArray := prog_3_method_7_code
def yX1_restFor : MethodName := ⟨RX1, "restFor", "(II)I"⟩
abbrev cX1_plainWord : ByteArray := prog_3_method_8_code
def yX1_plainWord : MethodName := ⟨RX1, "plainWord", "(I)I"⟩
abbrev cX1_wordOf : ByteArray := prog_3_method_9_code
def yX1_wordOf : MethodName := ⟨RX1, "wordOf", "(II)I"⟩
abbrev cX1_hitOf : ByteArray := prog_3_method_10_code
def yX1_hitOf : MethodName := ⟨RX1, "hitOf", "(I)I"⟩
abbrev cX1_blockOf : ByteArray := prog_3_method_11_code
def yX1_blockOf : MethodName := ⟨RX1, "blockOf", "(II)I"⟩
abbrev cX1_fateOf : ByteArray := prog_3_method_12_code
def yX1_fateOf : MethodName := ⟨RX1, "fateOf", "(I)I"⟩
abbrev cX1_groupRow : ByteArray := prog_3_method_13_code
def yX1_groupRow : MethodName := ⟨RX1, "groupRow", "(I)J"⟩
def RX2 : String := "SideWords$Receiver"
def TX2 : u_T := fun k => match k with
  | 0 => ("SideWords$Receiver", "shown", "LSideWords$Shown;", true)
  | 1 => ("SideWords$Receiver", "parts", "[I", true)
  | 2 => ("SideWords$Receiver", "window", "I", false)
  | 3 => ("SideWords$Receiver", "heard", "I", false)
  | 4 => ("SideWords$Receiver", "since", "I", false)
  | 5 => ("SideWords$Receiver", "sync", "Z", false)
  | 6 => ("SideWords$Receiver", "due", "I", false)
  | 7 => ("SideWords$Receiver", "phase", "I", false)
  | 8 => ("SideWords$Receiver", "bads", "I", false)
  | 9 => ("SideWords$Receiver", "good", "I", false)
  | 10 => ("SideWords$Receiver", "mended", "I", false)
  | 11 => ("SideWords$Receiver", "spoilt", "I", false)
  | 12 => ("SideWords$Receiver", "losses", "I", false)
  | 13 => ("SideWords$Receiver", "lastHitAt", "I", false)
  | _ => ("SideWords$Receiver", "lastHitOffset", "I", false)
def tyX2 : Nat → FieldType := fun k => match k with
  | 0 => .object "SideWords$Shown"
  | 1 => .array .int
  | 2 => .int
  | 3 => .int
  | 4 => .int
  | 5 => .boolean
  | 6 => .int
  | 7 => .int
  | 8 => .int
  | 9 => .int
  | 10 => .int
  | 11 => .int
  | 12 => .int
  | 13 => .int
  | _ => .int
abbrev wsX20 : List Cond := u_ws RX2 TX2 15
theorem nmX2 : ∀ a, a < 15 → ∀ b, b < 15 → a ≠ b → (TX2 a).2.1 ≠ (TX2 b).2.1 := by decide +kernel
theorem tyX2_ok : ∀ k, k < 15 → parseFieldDescriptor (TX2 k).2.2.1 = some (tyX2 k) := by decide +kernel
abbrev cX2_init : ByteArray := prog_4_method_1_code
def yX2_init : MethodName := ⟨RX2, "<init>", "()V"⟩
abbrev cX2_clear : ByteArray := prog_4_method_2_code
def yX2_clear : MethodName := ⟨RX2, "clear", "()V"⟩
abbrev cX2_copyFrom : ByteArray := prog_4_method_3_code
def yX2_copyFrom : MethodName := ⟨RX2, "copyFrom", "(LSideWords$Receiver;)V"⟩
abbrev cX2_syncBit : ByteArray := prog_4_method_4_code
def yX2_syncBit : MethodName := ⟨RX2, "syncBit", "()I"⟩
abbrev cX2_tell : ByteArray := prog_4_method_5_code
def yX2_tell : MethodName := ⟨RX2, "tell", "(I)I"⟩
abbrev cX2_countOf : ByteArray := prog_4_method_6_code
def yX2_countOf : MethodName := ⟨RX2, "countOf", "(I)I"⟩
abbrev cX2_hearBits : ByteArray := prog_4_method_7_code
def yX2_hearBits : MethodName := ⟨RX2, "hearBits", "(LSideWords$Code;JI)V"⟩
abbrev cX2_seekSync : ByteArray := prog_4_method_8_code
def yX2_seekSync : MethodName := ⟨RX2, "seekSync", "(LSideWords$Code;)Z"⟩
abbrev cX2_fitsLastHit : ByteArray := prog_4_method_9_code
def yX2_fitsLastHit : MethodName := ⟨RX2, "fitsLastHit", "(I)Z"⟩
abbrev cX2_findSync : ByteArray := prog_4_method_10_code
def yX2_findSync : MethodName := ⟨RX2, "findSync", "(I)V"⟩
abbrev cX2_goOn : ByteArray := prog_4_method_11_code
def yX2_goOn : MethodName := ⟨RX2, "goOn", "(LSideWords$Code;)Z"⟩
abbrev cX2_takeBlock : ByteArray := prog_4_method_12_code
def yX2_takeBlock : MethodName := ⟨RX2, "takeBlock", "(LSideWords$Code;)V"⟩
abbrev cX2_countBlock : ByteArray := prog_4_method_13_code
def yX2_countBlock : MethodName := ⟨RX2, "countBlock", "(I)V"⟩
abbrev cX2_lose : ByteArray := prog_4_method_14_code
def yX2_lose : MethodName := ⟨RX2, "lose", "()V"⟩
abbrev cX2_startOver : ByteArray := prog_4_method_15_code
def yX2_startOver : MethodName := ⟨RX2, "startOver", "()V"⟩
def RX3 : String := "SideWords$Shown"
def TX3 : u_T := fun k => match k with
  | 0 => ("SideWords$Shown", "names", "[I", true)
  | 1 => ("SideWords$Shown", "candidates", "[I", true)
  | 2 => ("SideWords$Shown", "stations", "[I", true)
  | 3 => ("SideWords$Shown", "heardOf", "[I", true)
  | 4 => ("SideWords$Shown", "listed", "I", false)
  | 5 => ("SideWords$Shown", "program", "I", false)
  | 6 => ("SideWords$Shown", "programCandidate", "I", false)
  | 7 => ("SideWords$Shown", "clock", "I", false)
  | _ => ("SideWords$Shown", "flag", "I", false)
def tyX3 : Nat → FieldType := fun k => match k with
  | 0 => .array .int
  | 1 => .array .int
  | 2 => .array .int
  | 3 => .array .int
  | 4 => .int
  | 5 => .int
  | 6 => .int
  | 7 => .int
  | _ => .int
abbrev wsX30 : List Cond := u_ws RX3 TX3 9
theorem nmX3 : ∀ a, a < 9 → ∀ b, b < 9 → a ≠ b → (TX3 a).2.1 ≠ (TX3 b).2.1 := by decide +kernel
theorem tyX3_ok : ∀ k, k < 9 → parseFieldDescriptor (TX3 k).2.2.1 = some (tyX3 k) := by decide +kernel
abbrev cX3_init : ByteArray := prog_5_method_1_code
def yX3_init : MethodName := ⟨RX3, "<init>", "()V"⟩
abbrev cX3_clear : ByteArray := prog_5_method_2_code
def yX3_clear : MethodName := ⟨RX3, "clear", "()V"⟩
abbrev cX3_clearNames : ByteArray := prog_5_method_3_code
def yX3_clearNames : MethodName := ⟨RX3, "clearNames", "()V"⟩
abbrev cX3_copyFrom : ByteArray := prog_5_method_4_code
def yX3_copyFrom : MethodName := ⟨RX3, "copyFrom", "(LSideWords$Shown;)V"⟩
abbrev cX3_takeGroup : ByteArray := prog_5_method_5_code
def yX3_takeGroup : MethodName := ⟨RX3, "takeGroup", "([I)V"⟩
abbrev cX3_takeProgram : ByteArray := prog_5_method_6_code
def yX3_takeProgram : MethodName := ⟨RX3, "takeProgram", "(I)V"⟩
abbrev cX3_takePair : ByteArray := prog_5_method_7_code
def yX3_takePair : MethodName := ⟨RX3, "takePair", "(III)V"⟩
abbrev cX3_takeClock : ByteArray := prog_5_method_8_code
def yX3_takeClock : MethodName := ⟨RX3, "takeClock", "(II)V"⟩
abbrev cX3_takeStation : ByteArray := prog_5_method_9_code
def yX3_takeStation : MethodName := ⟨RX3, "takeStation", "(I)V"⟩
abbrev cX3_takeFlag : ByteArray := prog_5_method_10_code
def yX3_takeFlag : MethodName := ⟨RX3, "takeFlag", "(I)V"⟩
abbrev cX3_indexInOrder : ByteArray := prog_5_method_11_code
def yX3_indexInOrder : MethodName := ⟨RX3, "indexInOrder", "(I)I"⟩
abbrev cX3_comesBefore : ByteArray := prog_5_method_12_code
def yX3_comesBefore : MethodName := ⟨RX3, "comesBefore", "(II)Z"⟩
def RX4 : String := "SideWords$Text"
def TX4 : u_T := fun k => match k with
  | 0 => ("SideWords$Text", "letters", "[I", true)
  | _ => ("SideWords$Text", "length", "I", false)
def tyX4 : Nat → FieldType := fun k => match k with
  | 0 => .array .int
  | _ => .int
abbrev wsX40 : List Cond := u_ws RX4 TX4 2
theorem nmX4 : ∀ a, a < 2 → ∀ b, b < 2 → a ≠ b → (TX4 a).2.1 ≠ (TX4 b).2.1 := by decide +kernel
theorem tyX4_ok : ∀ k, k < 2 → parseFieldDescriptor (TX4 k).2.2.1 = some (tyX4 k) := by decide +kernel
abbrev cX4_init : ByteArray := prog_6_method_1_code
def yX4_init : MethodName := ⟨RX4, "<init>", "()V"⟩
abbrev cX4_add : ByteArray := prog_6_method_2_code
def yX4_add : MethodName := ⟨RX4, "add", "(I)Z"⟩
abbrev cX4_firstFault : ByteArray := prog_6_method_3_code
def yX4_firstFault : MethodName := ⟨RX4, "firstFault", "()I"⟩
abbrev cX4_fits : ByteArray := prog_6_method_4_code
def yX4_fits : MethodName := ⟨RX4, "fits", "(I)Z"⟩
abbrev cX4_endsNumber : ByteArray := prog_6_method_5_code
def yX4_endsNumber : MethodName := ⟨RX4, "endsNumber", "(I)Z"⟩
abbrev cX4_figureAt : ByteArray := prog_6_method_6_code
def yX4_figureAt : MethodName := ⟨RX4, "figureAt", "(I)I"⟩
abbrev cX4_numberAt : ByteArray := prog_6_method_7_code
def yX4_numberAt : MethodName := ⟨RX4, "numberAt", "(I)I"⟩
def RX5 : String := "SideWords"
def TX5 : u_T := fun k => match k with
  | 0 => ("SideWords", "text", "LSideWords$Text;", true)
  | 1 => ("SideWords", "code", "LSideWords$Code;", true)
  | 2 => ("SideWords", "now", "LSideWords$Receiver;", true)
  | 3 => ("SideWords", "acts", "LSideWords$Acts;", true)
  | 4 => ("SideWords", "slots", "[LSideWords$Receiver;", true)
  | 5 => ("SideWords", "kept", "[Z", true)
  | 6 => ("SideWords", "trials", "[LSideWords$Receiver;", true)
  | 7 => ("SideWords", "seenGroups", "[I", true)
  | 8 => ("SideWords", "seenCounts", "[I", true)
  | 9 => ("SideWords", "seenValues", "[I", true)
  | 10 => ("SideWords", "seenSize", "I", false)
  | _ => ("SideWords", "theSeed", "J", false)
def tyX5 : Nat → FieldType := fun k => match k with
  | 0 => .object "SideWords$Text"
  | 1 => .object "SideWords$Code"
  | 2 => .object "SideWords$Receiver"
  | 3 => .object "SideWords$Acts"
  | 4 => .array (.object "SideWords$Receiver")
  | 5 => .array .boolean
  | 6 => .array (.object "SideWords$Receiver")
  | 7 => .array .int
  | 8 => .array .int
  | 9 => .array .int
  | 10 => .int
  | _ => .long
abbrev wsX50 : List Cond := u_ws RX5 TX5 12
theorem nmX5 : ∀ a, a < 12 → ∀ b, b < 12 → a ≠ b → (TX5 a).2.1 ≠ (TX5 b).2.1 := by decide +kernel
theorem tyX5_ok : ∀ k, k < 12 → parseFieldDescriptor (TX5 k).2.2.1 = some (tyX5 k) := by decide +kernel
abbrev cX5_init : ByteArray := prog_1_method_1_code
def yX5_init : MethodName := ⟨RX5, "<init>", "()V"⟩
abbrev cX5_write : ByteArray := prog_1_method_2_code
def yX5_write : MethodName := ⟨RX5, "write", "(I)I"⟩
abbrev cX5_wipe : ByteArray := prog_1_method_3_code
def yX5_wipe : MethodName := ⟨RX5, "wipe", "()I"⟩
abbrev cX5_fault : ByteArray := prog_1_method_4_code
def yX5_fault : MethodName := ⟨RX5, "fault", "()I"⟩
abbrev cX5_station : ByteArray := prog_1_method_5_code
def yX5_station : MethodName := ⟨RX5, "station", "()I"⟩
abbrev cX5_about : ByteArray := prog_1_method_6_code
def yX5_about : MethodName := ⟨RX5, "about", "(I)I"⟩
abbrev cX5_offset : ByteArray := prog_1_method_7_code
def yX5_offset : MethodName := ⟨RX5, "offset", "(I)I"⟩
abbrev cX5_told : ByteArray := prog_1_method_8_code
def yX5_told : MethodName := ⟨RX5, "told", "(I)I"⟩
abbrev cX5_part : ByteArray := prog_1_method_9_code
def yX5_part : MethodName := ⟨RX5, "part", "(I)I"⟩
abbrev cX5_name : ByteArray := prog_1_method_10_code
def yX5_name : MethodName := ⟨RX5, "name", "(IZ)I"⟩
abbrev cX5_list : ByteArray := prog_1_method_11_code
def yX5_list : MethodName := ⟨RX5, "list", "(IZ)I"⟩
abbrev cX5_word : ByteArray := prog_1_method_12_code
def yX5_word : MethodName := ⟨RX5, "word", "(II)I"⟩
abbrev cX5_rest : ByteArray := prog_1_method_13_code
def yX5_rest : MethodName := ⟨RX5, "rest", "(II)I"⟩
abbrev cX5_mended : ByteArray := prog_1_method_14_code
def yX5_mended : MethodName := ⟨RX5, "mended", "(II)I"⟩
abbrev cX5_distance : ByteArray := prog_1_method_15_code
def yX5_distance : MethodName := ⟨RX5, "distance", "()I"⟩
abbrev cX5_flips : ByteArray := prog_1_method_16_code
def yX5_flips : MethodName := ⟨RX5, "flips", "(II)I"⟩
abbrev cX5_slips : ByteArray := prog_1_method_17_code
def yX5_slips : MethodName := ⟨RX5, "slips", "(III)I"⟩
abbrev cX5_bits : ByteArray := prog_1_method_18_code
def yX5_bits : MethodName := ⟨RX5, "bits", "(II)I"⟩
abbrev cX5_hear : ByteArray := prog_1_method_19_code
def yX5_hear : MethodName := ⟨RX5, "hear", "(III)I"⟩
abbrev cX5_group : ByteArray := prog_1_method_20_code
def yX5_group : MethodName := ⟨RX5, "group", "(II)I"⟩
abbrev cX5_reset : ByteArray := prog_1_method_21_code
def yX5_reset : MethodName := ⟨RX5, "reset", "()I"⟩
abbrev cX5_undo : ByteArray := prog_1_method_22_code
def yX5_undo : MethodName := ⟨RX5, "undo", "()I"⟩
abbrev cX5_ahead : ByteArray := prog_1_method_23_code
def yX5_ahead : MethodName := ⟨RX5, "ahead", "(III)I"⟩
abbrev cX5_needs : ByteArray := prog_1_method_24_code
def yX5_needs : MethodName := ⟨RX5, "needs", "(I)I"⟩
abbrev cX5_judge : ByteArray := prog_1_method_25_code
def yX5_judge : MethodName := ⟨RX5, "judge", "(IJ)I"⟩
abbrev cX5_see : ByteArray := prog_1_method_26_code
def yX5_see : MethodName := ⟨RX5, "see", "(III)I"⟩
abbrev cX5_unsee : ByteArray := prog_1_method_27_code
def yX5_unsee : MethodName := ⟨RX5, "unsee", "()I"⟩
abbrev cX5_which : ByteArray := prog_1_method_28_code
def yX5_which : MethodName := ⟨RX5, "which", "()J"⟩
abbrev cX5_share : ByteArray := prog_1_method_29_code
def yX5_share : MethodName := ⟨RX5, "share", "(IIZ)I"⟩
abbrev cX5_chance : ByteArray := prog_1_method_30_code
def yX5_chance : MethodName := ⟨RX5, "chance", "(IIIZ)I"⟩
abbrev cX5_seed : ByteArray := prog_1_method_31_code
def yX5_seed : MethodName := ⟨RX5, "seed", "(J)J"⟩
abbrev cX5_drawn : ByteArray := prog_1_method_32_code
def yX5_drawn : MethodName := ⟨RX5, "drawn", "(I)I"⟩
abbrev cX5_keep : ByteArray := prog_1_method_33_code
def yX5_keep : MethodName := ⟨RX5, "keep", "(I)I"⟩
abbrev cX5_again : ByteArray := prog_1_method_34_code
def yX5_again : MethodName := ⟨RX5, "again", "(I)I"⟩
abbrev cX5_isOffset : ByteArray := prog_1_method_35_code
def yX5_isOffset : MethodName := ⟨RX5, "isOffset", "(I)Z"⟩
abbrev cX5_isPlace : ByteArray := prog_1_method_36_code
def yX5_isPlace : MethodName := ⟨RX5, "isPlace", "(I)Z"⟩
abbrev cX5_isSlot : ByteArray := prog_1_method_37_code
def yX5_isSlot : MethodName := ⟨RX5, "isSlot", "(I)Z"⟩
abbrev cX5_isByte : ByteArray := prog_1_method_38_code
def yX5_isByte : MethodName := ⟨RX5, "isByte", "(I)Z"⟩
abbrev cX5_isWord : ByteArray := prog_1_method_39_code
def yX5_isWord : MethodName := ⟨RX5, "isWord", "(I)Z"⟩
abbrev cX5_nextOffset : ByteArray := prog_1_method_40_code
def yX5_nextOffset : MethodName := ⟨RX5, "nextOffset", "(I)I"⟩
abbrev cX5_presentBits : ByteArray := prog_1_method_41_code
def yX5_presentBits : MethodName := ⟨RX5, "presentBits", "([I)I"⟩
abbrev cX5_freshTrial : ByteArray := prog_1_method_42_code
def yX5_freshTrial : MethodName := ⟨RX5, "freshTrial", "()LSideWords$Receiver;"⟩
abbrev cX5_hearGroups : ByteArray := prog_1_method_43_code
def yX5_hearGroups : MethodName := ⟨RX5, "hearGroups", "(LSideWords$Receiver;II)V"⟩
abbrev cX5_withoutLast : ByteArray := prog_1_method_44_code
def yX5_withoutLast : MethodName := ⟨RX5, "withoutLast", "(JI)J"⟩
abbrev cX5_isSo : ByteArray := prog_1_method_45_code
def yX5_isSo : MethodName := ⟨RX5, "isSo", "(LSideWords$Receiver;I)Z"⟩
abbrev cX5_canHear : ByteArray := prog_1_method_46_code
def yX5_canHear : MethodName := ⟨RX5, "canHear", "(LSideWords$Receiver;II)Z"⟩
abbrev cX5_canReset : ByteArray := prog_1_method_47_code
def yX5_canReset : MethodName := ⟨RX5, "canReset", "(LSideWords$Receiver;I)Z"⟩
abbrev cX5_placesFitting : ByteArray := prog_1_method_48_code
def yX5_placesFitting : MethodName := ⟨RX5, "placesFitting", "(IJ)J"⟩
abbrev cX5_goodBehind : ByteArray := prog_1_method_49_code
def yX5_goodBehind : MethodName := ⟨RX5, "goodBehind", "(II)I"⟩
abbrev cX5_setsWithFate : ByteArray := prog_1_method_50_code
def yX5_setsWithFate : MethodName := ⟨RX5, "setsWithFate", "(LSideWords$Code;IIII)I"⟩
abbrev cX5_waysToSync : ByteArray := prog_1_method_51_code
def yX5_waysToSync : MethodName := ⟨RX5, "waysToSync", "(LSideWords$Code;[LSideWords$Receiver;JIII)I"⟩
abbrev cX5_drawnWord : ByteArray := prog_1_method_52_code
def yX5_drawnWord : MethodName := ⟨RX5, "drawnWord", "(II)I"⟩
abbrev cX5_fraction : ByteArray := prog_1_method_53_code
def yX5_fraction : MethodName := ⟨RX5, "fraction", "(IIZ)I"⟩
abbrev cX5_greatestDivisor : ByteArray := prog_1_method_54_code
def yX5_greatestDivisor : MethodName := ⟨RX5, "greatestDivisor", "(II)I"⟩
def RX6 : String := "SideWordsModel"
def TX6 : u_T := fun k => match k with
  | 0 => ("SideWordsModel", "text", "[I", true)
  | 1 => ("SideWordsModel", "length", "I", false)
  | 2 => ("SideWordsModel", "g", "I", false)
  | 3 => ("SideWordsModel", "offsets", "[I", true)
  | 4 => ("SideWordsModel", "wide", "I", false)
  | 5 => ("SideWordsModel", "hold", "I", false)
  | 6 => ("SideWordsModel", "burstsOf", "[I", true)
  | 7 => ("SideWordsModel", "burst", "[I", true)
  | 8 => ("SideWordsModel", "bursts", "I", false)
  | 9 => ("SideWordsModel", "sure", "I", false)
  | 10 => ("SideWordsModel", "now", "[I", true)
  | 11 => ("SideWordsModel", "trial", "[I", true)
  | 12 => ("SideWordsModel", "diary", "[I", true)
  | 13 => ("SideWordsModel", "acts", "I", false)
  | 14 => ("SideWordsModel", "next", "I", false)
  | 15 => ("SideWordsModel", "kept", "[I", true)
  | 16 => ("SideWordsModel", "isKept", "[Z", true)
  | 17 => ("SideWordsModel", "seenGroup", "[I", true)
  | 18 => ("SideWordsModel", "seenWhat", "[I", true)
  | 19 => ("SideWordsModel", "seenIs", "[I", true)
  | 20 => ("SideWordsModel", "seen", "I", false)
  | 21 => ("SideWordsModel", "seed", "J", false)
  | 22 => ("SideWordsModel", "worth", "[I", true)
  | 23 => ("SideWordsModel", "readG", "I", false)
  | 24 => ("SideWordsModel", "readOffsets", "[I", true)
  | 25 => ("SideWordsModel", "readWide", "I", false)
  | _ => ("SideWordsModel", "readHold", "I", false)
def tyX6 : Nat → FieldType := fun k => match k with
  | 0 => .array .int
  | 1 => .int
  | 2 => .int
  | 3 => .array .int
  | 4 => .int
  | 5 => .int
  | 6 => .array .int
  | 7 => .array .int
  | 8 => .int
  | 9 => .int
  | 10 => .array .int
  | 11 => .array .int
  | 12 => .array .int
  | 13 => .int
  | 14 => .int
  | 15 => .array .int
  | 16 => .array .boolean
  | 17 => .array .int
  | 18 => .array .int
  | 19 => .array .int
  | 20 => .int
  | 21 => .long
  | 22 => .array .int
  | 23 => .int
  | 24 => .array .int
  | 25 => .int
  | _ => .int
abbrev wsX60 : List Cond := u_ws RX6 TX6 27
theorem nmX6 : ∀ a, a < 27 → ∀ b, b < 27 → a ≠ b → (TX6 a).2.1 ≠ (TX6 b).2.1 := by decide +kernel
theorem tyX6_ok : ∀ k, k < 27 → parseFieldDescriptor (TX6 k).2.2.1 = some (tyX6 k) := by decide +kernel
abbrev cX6_init : ByteArray := prog_8_method_1_code
def yX6_init : MethodName := ⟨RX6, "<init>", "()V"⟩
abbrev cX6_fresh : ByteArray := prog_8_method_3_code
def yX6_fresh : MethodName := ⟨RX6, "fresh", "()V"⟩
abbrev cX6_copy : ByteArray := prog_8_method_4_code
def yX6_copy : MethodName := ⟨RX6, "copy", "([I[I)V"⟩
abbrev cX6_in : ByteArray := prog_8_method_5_code
def yX6_in : MethodName := ⟨RX6, "in", "(JJJ)Z"⟩
abbrev cX6_has : ByteArray := prog_8_method_6_code
def yX6_has : MethodName := ⟨RX6, "has", "(II)Z"⟩
abbrev cX6_ones : ByteArray := prog_8_method_7_code
def yX6_ones : MethodName := ⟨RX6, "ones", "(I)I"⟩
abbrev cX6_power : ByteArray := prog_8_method_8_code
def yX6_power : MethodName := ⟨RX6, "power", "(II)I"⟩
abbrev cX6_factorial : ByteArray := prog_8_method_9_code
def yX6_factorial : MethodName := ⟨RX6, "factorial", "(I)I"⟩
abbrev cX6_fraction : ByteArray := prog_8_method_10_code
def yX6_fraction : MethodName := ⟨RX6, "fraction", "(IIZ)I"⟩
abbrev cX6_isOffset : ByteArray := prog_8_method_11_code
def yX6_isOffset : MethodName := ⟨RX6, "isOffset", "(I)Z"⟩
abbrev cX6_left : ByteArray := prog_8_method_12_code
def yX6_left : MethodName := ⟨RX6, "left", "(I)I"⟩
abbrev cX6_spanOf : ByteArray := prog_8_method_13_code
def yX6_spanOf : MethodName := ⟨RX6, "spanOf", "(I)I"⟩
abbrev cX6_layBursts : ByteArray := prog_8_method_14_code
def yX6_layBursts : MethodName := ⟨RX6, "layBursts", "()V"⟩
abbrev cX6_wordOf : ByteArray := prog_8_method_15_code
def yX6_wordOf : MethodName := ⟨RX6, "wordOf", "(II)I"⟩
abbrev cX6_restOf : ByteArray := prog_8_method_16_code
def yX6_restOf : MethodName := ⟨RX6, "restOf", "(II)I"⟩
abbrev cX6_sureOf : ByteArray := prog_8_method_17_code
def yX6_sureOf : MethodName := ⟨RX6, "sureOf", "(I)I"⟩
abbrev cX6_write : ByteArray := prog_8_method_18_code
def yX6_write : MethodName := ⟨RX6, "write", "(I)I"⟩
abbrev cX6_wipe : ByteArray := prog_8_method_19_code
def yX6_wipe : MethodName := ⟨RX6, "wipe", "()I"⟩
abbrev cX6_isNew : ByteArray := prog_8_method_20_code
def yX6_isNew : MethodName := ⟨RX6, "isNew", "(II)Z"⟩
abbrev cX6_take : ByteArray := prog_8_method_21_code
def yX6_take : MethodName := ⟨RX6, "take", "(II)Z"⟩
abbrev cX6_readText : ByteArray := prog_8_method_22_code
def yX6_readText : MethodName := ⟨RX6, "readText", "()I"⟩
abbrev cX6_fault : ByteArray := prog_8_method_23_code
def yX6_fault : MethodName := ⟨RX6, "fault", "()I"⟩
abbrev cX6_station : ByteArray := prog_8_method_24_code
def yX6_station : MethodName := ⟨RX6, "station", "()I"⟩
abbrev cX6_noParts : ByteArray := prog_8_method_25_code
def yX6_noParts : MethodName := ⟨RX6, "noParts", "([I)V"⟩
abbrev cX6_quiet : ByteArray := prog_8_method_26_code
def yX6_quiet : MethodName := ⟨RX6, "quiet", "([I)V"⟩
abbrev cX6_lose : ByteArray := prog_8_method_27_code
def yX6_lose : MethodName := ⟨RX6, "lose", "([I)V"⟩
abbrev cX6_hearOf : ByteArray := prog_8_method_28_code
def yX6_hearOf : MethodName := ⟨RX6, "hearOf", "([II)V"⟩
abbrev cX6_takeFlag : ByteArray := prog_8_method_29_code
def yX6_takeFlag : MethodName := ⟨RX6, "takeFlag", "([II)V"⟩
abbrev cX6_takePair : ByteArray := prog_8_method_30_code
def yX6_takePair : MethodName := ⟨RX6, "takePair", "([III)V"⟩
abbrev cX6_lookAt : ByteArray := prog_8_method_31_code
def yX6_lookAt : MethodName := ⟨RX6, "lookAt", "([I)V"⟩
abbrev cX6_seek : ByteArray := prog_8_method_32_code
def yX6_seek : MethodName := ⟨RX6, "seek", "([I)V"⟩
abbrev cX6_block : ByteArray := prog_8_method_33_code
def yX6_block : MethodName := ⟨RX6, "block", "([I)V"⟩
abbrev cX6_hearBit : ByteArray := prog_8_method_34_code
def yX6_hearBit : MethodName := ⟨RX6, "hearBit", "([II)V"⟩
abbrev cX6_hearBits : ByteArray := prog_8_method_35_code
def yX6_hearBits : MethodName := ⟨RX6, "hearBits", "([III)V"⟩
abbrev cX6_byteOf : ByteArray := prog_8_method_36_code
def yX6_byteOf : MethodName := ⟨RX6, "byteOf", "(II)I"⟩
abbrev cX6_hearGroup : ByteArray := prog_8_method_37_code
def yX6_hearGroup : MethodName := ⟨RX6, "hearGroup", "([III)V"⟩
abbrev cX6_tell : ByteArray := prog_8_method_38_code
def yX6_tell : MethodName := ⟨RX6, "tell", "([II)I"⟩
abbrev cX6_about : ByteArray := prog_8_method_39_code
def yX6_about : MethodName := ⟨RX6, "about", "(I)I"⟩
abbrev cX6_offset : ByteArray := prog_8_method_40_code
def yX6_offset : MethodName := ⟨RX6, "offset", "(I)I"⟩
abbrev cX6_thereAre : ByteArray := prog_8_method_41_code
def yX6_thereAre : MethodName := ⟨RX6, "thereAre", "(I)I"⟩
abbrev cX6_told : ByteArray := prog_8_method_42_code
def yX6_told : MethodName := ⟨RX6, "told", "(I)I"⟩
abbrev cX6_part : ByteArray := prog_8_method_43_code
def yX6_part : MethodName := ⟨RX6, "part", "(I)I"⟩
abbrev cX6_name : ByteArray := prog_8_method_44_code
def yX6_name : MethodName := ⟨RX6, "name", "(IZ)I"⟩
abbrev cX6_aheadOf : ByteArray := prog_8_method_45_code
def yX6_aheadOf : MethodName := ⟨RX6, "aheadOf", "(I)I"⟩
abbrev cX6_list : ByteArray := prog_8_method_46_code
def yX6_list : MethodName := ⟨RX6, "list", "(IZ)I"⟩
abbrev cX6_word : ByteArray := prog_8_method_47_code
def yX6_word : MethodName := ⟨RX6, "word", "(II)I"⟩
abbrev cX6_rest : ByteArray := prog_8_method_48_code
def yX6_rest : MethodName := ⟨RX6, "rest", "(II)I"⟩
abbrev cX6_mended : ByteArray := prog_8_method_49_code
def yX6_mended : MethodName := ⟨RX6, "mended", "(II)I"⟩
abbrev cX6_distance : ByteArray := prog_8_method_50_code
def yX6_distance : MethodName := ⟨RX6, "distance", "()I"⟩
abbrev cX6_flips : ByteArray := prog_8_method_51_code
def yX6_flips : MethodName := ⟨RX6, "flips", "(II)I"⟩
abbrev cX6_slips : ByteArray := prog_8_method_52_code
def yX6_slips : MethodName := ⟨RX6, "slips", "(III)I"⟩
abbrev cX6_note : ByteArray := prog_8_method_53_code
def yX6_note : MethodName := ⟨RX6, "note", "()V"⟩
abbrev cX6_bits : ByteArray := prog_8_method_54_code
def yX6_bits : MethodName := ⟨RX6, "bits", "(II)I"⟩
abbrev cX6_hear : ByteArray := prog_8_method_55_code
def yX6_hear : MethodName := ⟨RX6, "hear", "(III)I"⟩
abbrev cX6_group : ByteArray := prog_8_method_56_code
def yX6_group : MethodName := ⟨RX6, "group", "(II)I"⟩
abbrev cX6_resetOn : ByteArray := prog_8_method_57_code
def yX6_resetOn : MethodName := ⟨RX6, "resetOn", "([I)V"⟩
abbrev cX6_reset : ByteArray := prog_8_method_58_code
def yX6_reset : MethodName := ⟨RX6, "reset", "()I"⟩
abbrev cX6_undo : ByteArray := prog_8_method_59_code
def yX6_undo : MethodName := ⟨RX6, "undo", "()I"⟩
abbrev cX6_ahead : ByteArray := prog_8_method_60_code
def yX6_ahead : MethodName := ⟨RX6, "ahead", "(III)I"⟩
abbrev cX6_needs : ByteArray := prog_8_method_61_code
def yX6_needs : MethodName := ⟨RX6, "needs", "(I)I"⟩
abbrev cX6_judged : ByteArray := prog_8_method_62_code
def yX6_judged : MethodName := ⟨RX6, "judged", "(III)Z"⟩
abbrev cX6_hundredThousands : ByteArray := prog_8_method_63_code
def yX6_hundredThousands : MethodName := ⟨RX6, "hundredThousands", "(I)J"⟩
abbrev cX6_judge : ByteArray := prog_8_method_64_code
def yX6_judge : MethodName := ⟨RX6, "judge", "(IJ)I"⟩
abbrev cX6_see : ByteArray := prog_8_method_65_code
def yX6_see : MethodName := ⟨RX6, "see", "(III)I"⟩
abbrev cX6_unsee : ByteArray := prog_8_method_66_code
def yX6_unsee : MethodName := ⟨RX6, "unsee", "()I"⟩
abbrev cX6_isSoBy : ByteArray := prog_8_method_67_code
def yX6_isSoBy : MethodName := ⟨RX6, "isSoBy", "(II)Z"⟩
abbrev cX6_which : ByteArray := prog_8_method_68_code
def yX6_which : MethodName := ⟨RX6, "which", "()J"⟩
abbrev cX6_share : ByteArray := prog_8_method_69_code
def yX6_share : MethodName := ⟨RX6, "share", "(IIZ)I"⟩
abbrev cX6_chance : ByteArray := prog_8_method_70_code
def yX6_chance : MethodName := ⟨RX6, "chance", "(IIIZ)I"⟩
abbrev cX6_seed : ByteArray := prog_8_method_71_code
def yX6_seed : MethodName := ⟨RX6, "seed", "(J)J"⟩
abbrev cX6_drawn : ByteArray := prog_8_method_72_code
def yX6_drawn : MethodName := ⟨RX6, "drawn", "(I)I"⟩
abbrev cX6_keep : ByteArray := prog_8_method_73_code
def yX6_keep : MethodName := ⟨RX6, "keep", "(I)I"⟩
abbrev cX6_again : ByteArray := prog_8_method_74_code
def yX6_again : MethodName := ⟨RX6, "again", "(I)I"⟩
def RJ6 : String := "java/lang/Integer"
def TJ6 : u_T := fun k => match k with
  | _ => ("", "", "", false)
def tyJ6 : Nat → FieldType := fun k => match k with
  | _ => .int
abbrev wsJ60 : List Cond := u_ws RJ6 TJ6 0
theorem nmJ6 : ∀ a, a < 0 → ∀ b, b < 0 → a ≠ b → (TJ6 a).2.1 ≠ (TJ6 b).2.1 := by decide +kernel
theorem tyJ6_ok : ∀ k, k < 0 → parseFieldDescriptor (TJ6 k).2.2.1 = some (tyJ6 k) := by decide +kernel
abbrev cJ6_bitCount_0f7a4 : ByteArray := prog_9_method_49_code
def yJ6_bitCount_0f7a4 : MethodName := ⟨RJ6, "bitCount", "(I)I"⟩
def RJ9 : String := "java/lang/Math"
def TJ9 : u_T := fun k => match k with
  | _ => ("", "", "", false)
def tyJ9 : Nat → FieldType := fun k => match k with
  | _ => .int
abbrev wsJ90 : List Cond := u_ws RJ9 TJ9 0
theorem nmJ9 : ∀ a, a < 0 → ∀ b, b < 0 → a ≠ b → (TJ9 a).2.1 ≠ (TJ9 b).2.1 := by decide +kernel
theorem tyJ9_ok : ∀ k, k < 0 → parseFieldDescriptor (TJ9 k).2.2.1 = some (tyJ9 k) := by decide +kernel
abbrev cJ9_abs_0f7a4 : ByteArray := prog_10_method_59_code
def yJ9_abs_0f7a4 : MethodName := ⟨RJ9, "abs", "(I)I"⟩
abbrev cJ9_max_7cf53 : ByteArray := prog_10_method_65_code
def yJ9_max_7cf53 : MethodName := ⟨RJ9, "max", "(II)I"⟩
abbrev cJ9_min_7cf53 : ByteArray := prog_10_method_69_code
def yJ9_min_7cf53 : MethodName := ⟨RJ9, "min", "(II)I"⟩
def RJ10 : String := "java/lang/System"
def TJ10 : u_T := fun k => match k with
  | _ => ("", "", "", false)
def tyJ10 : Nat → FieldType := fun k => match k with
  | _ => .int
abbrev wsJ100 : List Cond := u_ws RJ10 TJ10 0
theorem nmJ10 : ∀ a, a < 0 → ∀ b, b < 0 → a ≠ b → (TJ10 a).2.1 ≠ (TJ10 b).2.1 := by decide +kernel
theorem tyJ10_ok : ∀ k, k < 0 → parseFieldDescriptor (TJ10 k).2.2.1 = some (tyJ10 k) := by decide +kernel
def RJ7 : String := "java/util/Arrays"
def TJ7 : u_T := fun k => match k with
  | _ => ("", "", "", false)
def tyJ7 : Nat → FieldType := fun k => match k with
  | _ => .int
abbrev wsJ70 : List Cond := u_ws RJ7 TJ7 0
theorem nmJ7 : ∀ a, a < 0 → ∀ b, b < 0 → a ≠ b → (TJ7 a).2.1 ≠ (TJ7 b).2.1 := by decide +kernel
theorem tyJ7_ok : ∀ k, k < 0 → parseFieldDescriptor (TJ7 k).2.2.1 = some (tyJ7 k) := by decide +kernel
abbrev cJ7_fill_53178 : ByteArray := prog_12_method_103_code
def yJ7_fill_53178 : MethodName := ⟨RJ7, "fill", "([II)V"⟩
def RL : String := "SideWordsLaw"
abbrev cL_law : ByteArray := code
def yL_law : MethodName := ⟨RL, "law", "([I)Z"⟩
abbrev vwCl : List vw_C := [(RX0, TX0, 3), (RX1, TX1, 9), (RX2, TX2, 15), (RX3, TX3, 9), (RX4, TX4, 2), (RX5, TX5, 12), (RX6, TX6, 27)]
end
section
theorem dX0_init_0 : decode cX0_init 0 = .ok (.aload_n 0, 1) := by decide +kernel
theorem dX0_init_1 : decode cX0_init 1 = .ok (.invokespecial 3, 3) := by decide +kernel
theorem dX0_init_4 : decode cX0_init 4 = .ok (.aload_n 0, 1) := by decide +kernel
theorem dX0_init_5 : decode cX0_init 5 = .ok (.bipush 14, 2) := by decide +kernel
theorem dX0_init_7 : decode cX0_init 7 = .ok (.anewarray 9, 3) := by decide +kernel
theorem dX0_init_10 : decode cX0_init 10 = .ok (.putfield 11, 3) := by decide +kernel
theorem dX0_init_13 : decode cX0_init 13 = .ok (.aload_n 0, 1) := by decide +kernel
theorem dX0_init_14 : decode cX0_init 14 = .ok (.iconst 0, 1) := by decide +kernel
theorem dX0_init_15 : decode cX0_init 15 = .ok (.putfield 17, 3) := by decide +kernel
theorem dX0_init_18 : decode cX0_init 18 = .ok (.aload_n 0, 1) := by decide +kernel
theorem dX0_init_19 : decode cX0_init 19 = .ok (.iconst 0, 1) := by decide +kernel
theorem dX0_init_20 : decode cX0_init 20 = .ok (.putfield 21, 3) := by decide +kernel
theorem dX0_init_23 : decode cX0_init 23 = .ok (.iconst 0, 1) := by decide +kernel
theorem dX0_init_24 : decode cX0_init 24 = .ok (.istore_n 1, 1) := by decide +kernel
theorem dX0_init_25 : decode cX0_init 25 = .ok (.iload_n 1, 1) := by decide +kernel
theorem dX0_init_26 : decode cX0_init 26 = .ok (.bipush 14, 2) := by decide +kernel
theorem dX0_init_28 : decode cX0_init 28 = .ok (.if_icmp .ge 22, 3) := by decide +kernel
theorem dX0_init_31 : decode cX0_init 31 = .ok (.aload_n 0, 1) := by decide +kernel
theorem dX0_init_32 : decode cX0_init 32 = .ok (.getfield 11, 3) := by decide +kernel
theorem dX0_init_35 : decode cX0_init 35 = .ok (.iload_n 1, 1) := by decide +kernel
theorem dX0_init_36 : decode cX0_init 36 = .ok (.new 9, 3) := by decide +kernel
theorem dX0_init_39 : decode cX0_init 39 = .ok (.dup, 1) := by decide +kernel
theorem dX0_init_40 : decode cX0_init 40 = .ok (.invokespecial 24, 3) := by decide +kernel
theorem dX0_init_43 : decode cX0_init 43 = .ok (.aastore, 1) := by decide +kernel
theorem dX0_init_44 : decode cX0_init 44 = .ok (.iinc 1 1, 3) := by decide +kernel
theorem dX0_init_47 : decode cX0_init 47 = .ok (.goto (-22), 3) := by decide +kernel
theorem dX0_init_50 : decode cX0_init 50 = .ok (.return_, 1) := by decide +kernel
theorem dX0_remember_0 : decode cX0_remember 0 = .ok (.aload_n 0, 1) := by decide +kernel
theorem dX0_remember_1 : decode cX0_remember 1 = .ok (.getfield 11, 3) := by decide +kernel
theorem dX0_remember_4 : decode cX0_remember 4 = .ok (.aload_n 0, 1) := by decide +kernel
theorem dX0_remember_5 : decode cX0_remember 5 = .ok (.getfield 17, 3) := by decide +kernel
theorem dX0_remember_8 : decode cX0_remember 8 = .ok (.aaload, 1) := by decide +kernel
theorem dX0_remember_9 : decode cX0_remember 9 = .ok (.aload_n 1, 1) := by decide +kernel
theorem dX0_remember_10 : decode cX0_remember 10 = .ok (.invokevirtual 25, 3) := by decide +kernel
theorem dX0_remember_13 : decode cX0_remember 13 = .ok (.aload_n 0, 1) := by decide +kernel
theorem dX0_remember_14 : decode cX0_remember 14 = .ok (.aload_n 0, 1) := by decide +kernel
theorem dX0_remember_15 : decode cX0_remember 15 = .ok (.getfield 17, 3) := by decide +kernel
theorem dX0_remember_18 : decode cX0_remember 18 = .ok (.iconst 1, 1) := by decide +kernel
theorem dX0_remember_19 : decode cX0_remember 19 = .ok (.iadd, 1) := by decide +kernel
theorem dX0_remember_20 : decode cX0_remember 20 = .ok (.bipush 14, 2) := by decide +kernel
theorem dX0_remember_22 : decode cX0_remember 22 = .ok (.irem, 1) := by decide +kernel
theorem dX0_remember_23 : decode cX0_remember 23 = .ok (.putfield 17, 3) := by decide +kernel
theorem dX0_remember_26 : decode cX0_remember 26 = .ok (.aload_n 0, 1) := by decide +kernel
theorem dX0_remember_27 : decode cX0_remember 27 = .ok (.aload_n 0, 1) := by decide +kernel
theorem dX0_remember_28 : decode cX0_remember 28 = .ok (.getfield 21, 3) := by decide +kernel
theorem dX0_remember_31 : decode cX0_remember 31 = .ok (.iconst 1, 1) := by decide +kernel
theorem dX0_remember_32 : decode cX0_remember 32 = .ok (.iadd, 1) := by decide +kernel
theorem dX0_remember_33 : decode cX0_remember 33 = .ok (.bipush 14, 2) := by decide +kernel
theorem dX0_remember_35 : decode cX0_remember 35 = .ok (.invokestatic 29, 3) := by decide +kernel
theorem dX0_remember_38 : decode cX0_remember 38 = .ok (.putfield 21, 3) := by decide +kernel
theorem dX0_remember_41 : decode cX0_remember 41 = .ok (.return_, 1) := by decide +kernel
theorem dX0_takeBack_0 : decode cX0_takeBack 0 = .ok (.aload_n 0, 1) := by decide +kernel
theorem dX0_takeBack_1 : decode cX0_takeBack 1 = .ok (.getfield 21, 3) := by decide +kernel
theorem dX0_takeBack_4 : decode cX0_takeBack 4 = .ok (.ifCond .ne 5, 3) := by decide +kernel
theorem dX0_takeBack_7 : decode cX0_takeBack 7 = .ok (.iconst 0, 1) := by decide +kernel
theorem dX0_takeBack_8 : decode cX0_takeBack 8 = .ok (.ireturn, 1) := by decide +kernel
theorem dX0_takeBack_9 : decode cX0_takeBack 9 = .ok (.aload_n 0, 1) := by decide +kernel
theorem dX0_takeBack_10 : decode cX0_takeBack 10 = .ok (.aload_n 0, 1) := by decide +kernel
theorem dX0_takeBack_11 : decode cX0_takeBack 11 = .ok (.getfield 17, 3) := by decide +kernel
theorem dX0_takeBack_14 : decode cX0_takeBack 14 = .ok (.bipush 14, 2) := by decide +kernel
theorem dX0_takeBack_16 : decode cX0_takeBack 16 = .ok (.iadd, 1) := by decide +kernel
theorem dX0_takeBack_17 : decode cX0_takeBack 17 = .ok (.iconst 1, 1) := by decide +kernel
theorem dX0_takeBack_18 : decode cX0_takeBack 18 = .ok (.isub, 1) := by decide +kernel
theorem dX0_takeBack_19 : decode cX0_takeBack 19 = .ok (.bipush 14, 2) := by decide +kernel
theorem dX0_takeBack_21 : decode cX0_takeBack 21 = .ok (.irem, 1) := by decide +kernel
theorem dX0_takeBack_22 : decode cX0_takeBack 22 = .ok (.putfield 17, 3) := by decide +kernel
theorem dX0_takeBack_25 : decode cX0_takeBack 25 = .ok (.aload_n 0, 1) := by decide +kernel
theorem dX0_takeBack_26 : decode cX0_takeBack 26 = .ok (.dup, 1) := by decide +kernel
theorem dX0_takeBack_27 : decode cX0_takeBack 27 = .ok (.getfield 21, 3) := by decide +kernel
theorem dX0_takeBack_30 : decode cX0_takeBack 30 = .ok (.iconst 1, 1) := by decide +kernel
theorem dX0_takeBack_31 : decode cX0_takeBack 31 = .ok (.isub, 1) := by decide +kernel
theorem dX0_takeBack_32 : decode cX0_takeBack 32 = .ok (.putfield 21, 3) := by decide +kernel
theorem dX0_takeBack_35 : decode cX0_takeBack 35 = .ok (.aload_n 1, 1) := by decide +kernel
theorem dX0_takeBack_36 : decode cX0_takeBack 36 = .ok (.aload_n 0, 1) := by decide +kernel
theorem dX0_takeBack_37 : decode cX0_takeBack 37 = .ok (.getfield 11, 3) := by decide +kernel
theorem dX0_takeBack_40 : decode cX0_takeBack 40 = .ok (.aload_n 0, 1) := by decide +kernel
theorem dX0_takeBack_41 : decode cX0_takeBack 41 = .ok (.getfield 17, 3) := by decide +kernel
theorem dX0_takeBack_44 : decode cX0_takeBack 44 = .ok (.aaload, 1) := by decide +kernel
theorem dX0_takeBack_45 : decode cX0_takeBack 45 = .ok (.invokevirtual 25, 3) := by decide +kernel
theorem dX0_takeBack_48 : decode cX0_takeBack 48 = .ok (.iconst 1, 1) := by decide +kernel
theorem dX0_takeBack_49 : decode cX0_takeBack 49 = .ok (.ireturn, 1) := by decide +kernel
theorem dX0_forget_0 : decode cX0_forget 0 = .ok (.aload_n 0, 1) := by decide +kernel
theorem dX0_forget_1 : decode cX0_forget 1 = .ok (.iconst 0, 1) := by decide +kernel
theorem dX0_forget_2 : decode cX0_forget 2 = .ok (.putfield 21, 3) := by decide +kernel
theorem dX0_forget_5 : decode cX0_forget 5 = .ok (.return_, 1) := by decide +kernel
end
section
theorem dX1_init_0 : decode cX1_init 0 = .ok (.aload_n 0, 1) := by decide +kernel
theorem dX1_init_1 : decode cX1_init 1 = .ok (.invokespecial 3, 3) := by decide +kernel
theorem dX1_init_4 : decode cX1_init 4 = .ok (.aload_n 0, 1) := by decide +kernel
theorem dX1_init_5 : decode cX1_init 5 = .ok (.iconst 4, 1) := by decide +kernel
theorem dX1_init_6 : decode cX1_init 6 = .ok (.newarray .int, 2) := by decide +kernel
theorem dX1_init_8 : decode cX1_init 8 = .ok (.putfield 9, 3) := by decide +kernel
theorem dX1_init_11 : decode cX1_init 11 = .ok (.aload_n 0, 1) := by decide +kernel
theorem dX1_init_12 : decode cX1_init 12 = .ok (.sipush 256, 3) := by decide +kernel
theorem dX1_init_15 : decode cX1_init 15 = .ok (.newarray .int, 2) := by decide +kernel
theorem dX1_init_17 : decode cX1_init 17 = .ok (.putfield 15, 3) := by decide +kernel
theorem dX1_init_20 : decode cX1_init 20 = .ok (.aload_n 0, 1) := by decide +kernel
theorem dX1_init_21 : decode cX1_init 21 = .ok (.bipush 64, 2) := by decide +kernel
theorem dX1_init_23 : decode cX1_init 23 = .ok (.newarray .int, 2) := by decide +kernel
theorem dX1_init_25 : decode cX1_init 25 = .ok (.putfield 18, 3) := by decide +kernel
theorem dX1_init_28 : decode cX1_init 28 = .ok (.aload_n 0, 1) := by decide +kernel
theorem dX1_init_29 : decode cX1_init 29 = .ok (.bipush 64, 2) := by decide +kernel
theorem dX1_init_31 : decode cX1_init 31 = .ok (.newarray .int, 2) := by decide +kernel
theorem dX1_init_33 : decode cX1_init 33 = .ok (.putfield 21, 3) := by decide +kernel
theorem dX1_init_36 : decode cX1_init 36 = .ok (.aload_n 0, 1) := by decide +kernel
theorem dX1_init_37 : decode cX1_init 37 = .ok (.iconst 1, 1) := by decide +kernel
theorem dX1_init_38 : decode cX1_init 38 = .ok (.putfield 24, 3) := by decide +kernel
theorem dX1_init_41 : decode cX1_init 41 = .ok (.aload_n 0, 1) := by decide +kernel
theorem dX1_init_42 : decode cX1_init 42 = .ok (.iconst 0, 1) := by decide +kernel
theorem dX1_init_43 : decode cX1_init 43 = .ok (.putfield 28, 3) := by decide +kernel
theorem dX1_init_46 : decode cX1_init 46 = .ok (.aload_n 0, 1) := by decide +kernel
theorem dX1_init_47 : decode cX1_init 47 = .ok (.iconst 1, 1) := by decide +kernel
theorem dX1_init_48 : decode cX1_init 48 = .ok (.putfield 31, 3) := by decide +kernel
theorem dX1_init_51 : decode cX1_init 51 = .ok (.aload_n 0, 1) := by decide +kernel
theorem dX1_init_52 : decode cX1_init 52 = .ok (.iconst 0, 1) := by decide +kernel
theorem dX1_init_53 : decode cX1_init 53 = .ok (.putfield 34, 3) := by decide +kernel
theorem dX1_init_56 : decode cX1_init 56 = .ok (.aload_n 0, 1) := by decide +kernel
theorem dX1_init_57 : decode cX1_init 57 = .ok (.iconst 0, 1) := by decide +kernel
theorem dX1_init_58 : decode cX1_init 58 = .ok (.putfield 37, 3) := by decide +kernel
theorem dX1_init_61 : decode cX1_init 61 = .ok (.iconst 0, 1) := by decide +kernel
theorem dX1_init_62 : decode cX1_init 62 = .ok (.istore_n 1, 1) := by decide +kernel
theorem dX1_init_63 : decode cX1_init 63 = .ok (.iload_n 1, 1) := by decide +kernel
theorem dX1_init_64 : decode cX1_init 64 = .ok (.iconst 4, 1) := by decide +kernel
theorem dX1_init_65 : decode cX1_init 65 = .ok (.if_icmp .ge 16, 3) := by decide +kernel
theorem dX1_init_68 : decode cX1_init 68 = .ok (.aload_n 0, 1) := by decide +kernel
theorem dX1_init_69 : decode cX1_init 69 = .ok (.getfield 9, 3) := by decide +kernel
theorem dX1_init_72 : decode cX1_init 72 = .ok (.iload_n 1, 1) := by decide +kernel
theorem dX1_init_73 : decode cX1_init 73 = .ok (.iload_n 1, 1) := by decide +kernel
theorem dX1_init_74 : decode cX1_init 74 = .ok (.iastore, 1) := by decide +kernel
theorem dX1_init_75 : decode cX1_init 75 = .ok (.iinc 1 1, 3) := by decide +kernel
theorem dX1_init_78 : decode cX1_init 78 = .ok (.goto (-15), 3) := by decide +kernel
theorem dX1_init_81 : decode cX1_init 81 = .ok (.aload_n 0, 1) := by decide +kernel
theorem dX1_init_82 : decode cX1_init 82 = .ok (.invokevirtual 40, 3) := by decide +kernel
theorem dX1_init_85 : decode cX1_init 85 = .ok (.return_, 1) := by decide +kernel
theorem dX1_takeFrom_0 : decode cX1_takeFrom 0 = .ok (.aload_n 0, 1) := by decide +kernel
theorem dX1_takeFrom_1 : decode cX1_takeFrom 1 = .ok (.aload_n 1, 1) := by decide +kernel
theorem dX1_takeFrom_2 : decode cX1_takeFrom 2 = .ok (.iconst 1, 1) := by decide +kernel
theorem dX1_takeFrom_3 : decode cX1_takeFrom 3 = .ok (.invokevirtual 45, 3) := by decide +kernel
theorem dX1_takeFrom_6 : decode cX1_takeFrom 6 = .ok (.putfield 24, 3) := by decide +kernel
theorem dX1_takeFrom_9 : decode cX1_takeFrom 9 = .ok (.iconst 0, 1) := by decide +kernel
theorem dX1_takeFrom_10 : decode cX1_takeFrom 10 = .ok (.istore_n 2, 1) := by decide +kernel
theorem dX1_takeFrom_11 : decode cX1_takeFrom 11 = .ok (.iload_n 2, 1) := by decide +kernel
theorem dX1_takeFrom_12 : decode cX1_takeFrom 12 = .ok (.iconst 4, 1) := by decide +kernel
theorem dX1_takeFrom_13 : decode cX1_takeFrom 13 = .ok (.if_icmp .ge 27, 3) := by decide +kernel
theorem dX1_takeFrom_16 : decode cX1_takeFrom 16 = .ok (.aload_n 0, 1) := by decide +kernel
theorem dX1_takeFrom_17 : decode cX1_takeFrom 17 = .ok (.getfield 9, 3) := by decide +kernel
theorem dX1_takeFrom_20 : decode cX1_takeFrom 20 = .ok (.iload_n 2, 1) := by decide +kernel
theorem dX1_takeFrom_21 : decode cX1_takeFrom 21 = .ok (.aload_n 1, 1) := by decide +kernel
theorem dX1_takeFrom_22 : decode cX1_takeFrom 22 = .ok (.iconst 3, 1) := by decide +kernel
theorem dX1_takeFrom_23 : decode cX1_takeFrom 23 = .ok (.iconst 2, 1) := by decide +kernel
theorem dX1_takeFrom_24 : decode cX1_takeFrom 24 = .ok (.iload_n 2, 1) := by decide +kernel
theorem dX1_takeFrom_25 : decode cX1_takeFrom 25 = .ok (.imul, 1) := by decide +kernel
theorem dX1_takeFrom_26 : decode cX1_takeFrom 26 = .ok (.iadd, 1) := by decide +kernel
theorem dX1_takeFrom_27 : decode cX1_takeFrom 27 = .ok (.invokevirtual 45, 3) := by decide +kernel
theorem dX1_takeFrom_30 : decode cX1_takeFrom 30 = .ok (.bipush 63, 2) := by decide +kernel
theorem dX1_takeFrom_32 : decode cX1_takeFrom 32 = .ok (.iand, 1) := by decide +kernel
theorem dX1_takeFrom_33 : decode cX1_takeFrom 33 = .ok (.iastore, 1) := by decide +kernel
theorem dX1_takeFrom_34 : decode cX1_takeFrom 34 = .ok (.iinc 2 1, 3) := by decide +kernel
theorem dX1_takeFrom_37 : decode cX1_takeFrom 37 = .ok (.goto (-26), 3) := by decide +kernel
theorem dX1_takeFrom_40 : decode cX1_takeFrom 40 = .ok (.aload_n 0, 1) := by decide +kernel
theorem dX1_takeFrom_41 : decode cX1_takeFrom 41 = .ok (.aload_n 1, 1) := by decide +kernel
theorem dX1_takeFrom_42 : decode cX1_takeFrom 42 = .ok (.bipush 11, 2) := by decide +kernel
theorem dX1_takeFrom_44 : decode cX1_takeFrom 44 = .ok (.invokevirtual 49, 3) := by decide +kernel
theorem dX1_takeFrom_47 : decode cX1_takeFrom 47 = .ok (.putfield 28, 3) := by decide +kernel
theorem dX1_takeFrom_50 : decode cX1_takeFrom 50 = .ok (.aload_n 0, 1) := by decide +kernel
theorem dX1_takeFrom_51 : decode cX1_takeFrom 51 = .ok (.aload_n 1, 1) := by decide +kernel
theorem dX1_takeFrom_52 : decode cX1_takeFrom 52 = .ok (.bipush 12, 2) := by decide +kernel
theorem dX1_takeFrom_54 : decode cX1_takeFrom 54 = .ok (.invokevirtual 49, 3) := by decide +kernel
theorem dX1_takeFrom_57 : decode cX1_takeFrom 57 = .ok (.putfield 31, 3) := by decide +kernel
theorem dX1_takeFrom_60 : decode cX1_takeFrom 60 = .ok (.aload_n 0, 1) := by decide +kernel
theorem dX1_takeFrom_61 : decode cX1_takeFrom 61 = .ok (.invokevirtual 40, 3) := by decide +kernel
theorem dX1_takeFrom_64 : decode cX1_takeFrom 64 = .ok (.return_, 1) := by decide +kernel
theorem dX1_fillRows_0 : decode cX1_fillRows 0 = .ok (.aload_n 0, 1) := by decide +kernel
theorem dX1_fillRows_1 : decode cX1_fillRows 1 = .ok (.getfield 15, 3) := by decide +kernel
theorem dX1_fillRows_4 : decode cX1_fillRows 4 = .ok (.iconst 0, 1) := by decide +kernel
theorem dX1_fillRows_5 : decode cX1_fillRows 5 = .ok (.iconst 0, 1) := by decide +kernel
theorem dX1_fillRows_6 : decode cX1_fillRows 6 = .ok (.iastore, 1) := by decide +kernel
theorem dX1_fillRows_7 : decode cX1_fillRows 7 = .ok (.iconst 1, 1) := by decide +kernel
theorem dX1_fillRows_8 : decode cX1_fillRows 8 = .ok (.istore_n 1, 1) := by decide +kernel
theorem dX1_fillRows_9 : decode cX1_fillRows 9 = .ok (.iload_n 1, 1) := by decide +kernel
theorem dX1_fillRows_10 : decode cX1_fillRows 10 = .ok (.sipush 256, 3) := by decide +kernel
theorem dX1_fillRows_13 : decode cX1_fillRows 13 = .ok (.if_icmp .ge 63, 3) := by decide +kernel
theorem dX1_fillRows_16 : decode cX1_fillRows 16 = .ok (.aload_n 0, 1) := by decide +kernel
theorem dX1_fillRows_17 : decode cX1_fillRows 17 = .ok (.getfield 15, 3) := by decide +kernel
theorem dX1_fillRows_20 : decode cX1_fillRows 20 = .ok (.iload_n 1, 1) := by decide +kernel
theorem dX1_fillRows_21 : decode cX1_fillRows 21 = .ok (.iconst 1, 1) := by decide +kernel
theorem dX1_fillRows_22 : decode cX1_fillRows 22 = .ok (.ishr, 1) := by decide +kernel
theorem dX1_fillRows_23 : decode cX1_fillRows 23 = .ok (.iaload, 1) := by decide +kernel
theorem dX1_fillRows_24 : decode cX1_fillRows 24 = .ok (.iconst 1, 1) := by decide +kernel
theorem dX1_fillRows_25 : decode cX1_fillRows 25 = .ok (.ishl, 1) := by decide +kernel
theorem dX1_fillRows_26 : decode cX1_fillRows 26 = .ok (.istore_n 2, 1) := by decide +kernel
theorem dX1_fillRows_27 : decode cX1_fillRows 27 = .ok (.iload_n 2, 1) := by decide +kernel
theorem dX1_fillRows_28 : decode cX1_fillRows 28 = .ok (.bipush 63, 2) := by decide +kernel
theorem dX1_fillRows_30 : decode cX1_fillRows 30 = .ok (.if_icmp .le 15, 3) := by decide +kernel
theorem dX1_fillRows_33 : decode cX1_fillRows 33 = .ok (.iload_n 2, 1) := by decide +kernel
theorem dX1_fillRows_34 : decode cX1_fillRows 34 = .ok (.aload_n 0, 1) := by decide +kernel
theorem dX1_fillRows_35 : decode cX1_fillRows 35 = .ok (.getfield 24, 3) := by decide +kernel
theorem dX1_fillRows_38 : decode cX1_fillRows 38 = .ok (.ixor, 1) := by decide +kernel
theorem dX1_fillRows_39 : decode cX1_fillRows 39 = .ok (.bipush 63, 2) := by decide +kernel
theorem dX1_fillRows_41 : decode cX1_fillRows 41 = .ok (.iand, 1) := by decide +kernel
theorem dX1_fillRows_42 : decode cX1_fillRows 42 = .ok (.goto 4, 3) := by decide +kernel
theorem dX1_fillRows_45 : decode cX1_fillRows 45 = .ok (.iload_n 2, 1) := by decide +kernel
theorem dX1_fillRows_46 : decode cX1_fillRows 46 = .ok (.istore_n 3, 1) := by decide +kernel
theorem dX1_fillRows_47 : decode cX1_fillRows 47 = .ok (.aload_n 0, 1) := by decide +kernel
theorem dX1_fillRows_48 : decode cX1_fillRows 48 = .ok (.getfield 15, 3) := by decide +kernel
theorem dX1_fillRows_51 : decode cX1_fillRows 51 = .ok (.iload_n 1, 1) := by decide +kernel
theorem dX1_fillRows_52 : decode cX1_fillRows 52 = .ok (.iload_n 1, 1) := by decide +kernel
theorem dX1_fillRows_53 : decode cX1_fillRows 53 = .ok (.iconst 1, 1) := by decide +kernel
theorem dX1_fillRows_54 : decode cX1_fillRows 54 = .ok (.iand, 1) := by decide +kernel
theorem dX1_fillRows_55 : decode cX1_fillRows 55 = .ok (.iconst 1, 1) := by decide +kernel
theorem dX1_fillRows_56 : decode cX1_fillRows 56 = .ok (.if_icmp .ne 12, 3) := by decide +kernel
theorem dX1_fillRows_59 : decode cX1_fillRows 59 = .ok (.iload_n 3, 1) := by decide +kernel
theorem dX1_fillRows_60 : decode cX1_fillRows 60 = .ok (.aload_n 0, 1) := by decide +kernel
theorem dX1_fillRows_61 : decode cX1_fillRows 61 = .ok (.getfield 24, 3) := by decide +kernel
theorem dX1_fillRows_64 : decode cX1_fillRows 64 = .ok (.ixor, 1) := by decide +kernel
theorem dX1_fillRows_65 : decode cX1_fillRows 65 = .ok (.goto 4, 3) := by decide +kernel
theorem dX1_fillRows_68 : decode cX1_fillRows 68 = .ok (.iload_n 3, 1) := by decide +kernel
theorem dX1_fillRows_69 : decode cX1_fillRows 69 = .ok (.iastore, 1) := by decide +kernel
theorem dX1_fillRows_70 : decode cX1_fillRows 70 = .ok (.iinc 1 1, 3) := by decide +kernel
theorem dX1_fillRows_73 : decode cX1_fillRows 73 = .ok (.goto (-64), 3) := by decide +kernel
theorem dX1_fillRows_76 : decode cX1_fillRows 76 = .ok (.aload_n 0, 1) := by decide +kernel
theorem dX1_fillRows_77 : decode cX1_fillRows 77 = .ok (.getfield 18, 3) := by decide +kernel
theorem dX1_fillRows_80 : decode cX1_fillRows 80 = .ok (.bipush (-9), 2) := by decide +kernel
theorem dX1_fillRows_82 : decode cX1_fillRows 82 = .ok (.invokestatic 52, 3) := by decide +kernel
theorem dX1_fillRows_85 : decode cX1_fillRows 85 = .ok (.iconst 0, 1) := by decide +kernel
theorem dX1_fillRows_86 : decode cX1_fillRows 86 = .ok (.istore_n 1, 1) := by decide +kernel
theorem dX1_fillRows_87 : decode cX1_fillRows 87 = .ok (.iload_n 1, 1) := by decide +kernel
theorem dX1_fillRows_88 : decode cX1_fillRows 88 = .ok (.iconst 4, 1) := by decide +kernel
theorem dX1_fillRows_89 : decode cX1_fillRows 89 = .ok (.if_icmp .ge 21, 3) := by decide +kernel
theorem dX1_fillRows_92 : decode cX1_fillRows 92 = .ok (.aload_n 0, 1) := by decide +kernel
theorem dX1_fillRows_93 : decode cX1_fillRows 93 = .ok (.getfield 18, 3) := by decide +kernel
theorem dX1_fillRows_96 : decode cX1_fillRows 96 = .ok (.aload_n 0, 1) := by decide +kernel
theorem dX1_fillRows_97 : decode cX1_fillRows 97 = .ok (.getfield 9, 3) := by decide +kernel
theorem dX1_fillRows_100 : decode cX1_fillRows 100 = .ok (.iload_n 1, 1) := by decide +kernel
theorem dX1_fillRows_101 : decode cX1_fillRows 101 = .ok (.iaload, 1) := by decide +kernel
theorem dX1_fillRows_102 : decode cX1_fillRows 102 = .ok (.iload_n 1, 1) := by decide +kernel
theorem dX1_fillRows_103 : decode cX1_fillRows 103 = .ok (.iastore, 1) := by decide +kernel
theorem dX1_fillRows_104 : decode cX1_fillRows 104 = .ok (.iinc 1 1, 3) := by decide +kernel
theorem dX1_fillRows_107 : decode cX1_fillRows 107 = .ok (.goto (-20), 3) := by decide +kernel
theorem dX1_fillRows_110 : decode cX1_fillRows 110 = .ok (.aload_n 0, 1) := by decide +kernel
theorem dX1_fillRows_111 : decode cX1_fillRows 111 = .ok (.invokevirtual 58, 3) := by decide +kernel
theorem dX1_fillRows_114 : decode cX1_fillRows 114 = .ok (.return_, 1) := by decide +kernel
theorem dX1_findBursts_0 : decode cX1_findBursts 0 = .ok (.aload_n 0, 1) := by decide +kernel
theorem dX1_findBursts_1 : decode cX1_findBursts 1 = .ok (.getfield 21, 3) := by decide +kernel
theorem dX1_findBursts_4 : decode cX1_findBursts 4 = .ok (.iconst 0, 1) := by decide +kernel
theorem dX1_findBursts_5 : decode cX1_findBursts 5 = .ok (.invokestatic 52, 3) := by decide +kernel
theorem dX1_findBursts_8 : decode cX1_findBursts 8 = .ok (.aload_n 0, 1) := by decide +kernel
theorem dX1_findBursts_9 : decode cX1_findBursts 9 = .ok (.iconst 0, 1) := by decide +kernel
theorem dX1_findBursts_10 : decode cX1_findBursts 10 = .ok (.putfield 34, 3) := by decide +kernel
theorem dX1_findBursts_13 : decode cX1_findBursts 13 = .ok (.iconst 1, 1) := by decide +kernel
theorem dX1_findBursts_14 : decode cX1_findBursts 14 = .ok (.istore_n 1, 1) := by decide +kernel
theorem dX1_findBursts_15 : decode cX1_findBursts 15 = .ok (.iload_n 1, 1) := by decide +kernel
theorem dX1_findBursts_16 : decode cX1_findBursts 16 = .ok (.iconst 1, 1) := by decide +kernel
theorem dX1_findBursts_17 : decode cX1_findBursts 17 = .ok (.aload_n 0, 1) := by decide +kernel
theorem dX1_findBursts_18 : decode cX1_findBursts 18 = .ok (.getfield 28, 3) := by decide +kernel
theorem dX1_findBursts_21 : decode cX1_findBursts 21 = .ok (.ishl, 1) := by decide +kernel
theorem dX1_findBursts_22 : decode cX1_findBursts 22 = .ok (.if_icmp .ge 39, 3) := by decide +kernel
theorem dX1_findBursts_25 : decode cX1_findBursts 25 = .ok (.iconst 0, 1) := by decide +kernel
theorem dX1_findBursts_26 : decode cX1_findBursts 26 = .ok (.istore_n 2, 1) := by decide +kernel
theorem dX1_findBursts_27 : decode cX1_findBursts 27 = .ok (.iload_n 2, 1) := by decide +kernel
theorem dX1_findBursts_28 : decode cX1_findBursts 28 = .ok (.bipush 14, 2) := by decide +kernel
theorem dX1_findBursts_30 : decode cX1_findBursts 30 = .ok (.if_icmp .ge 25, 3) := by decide +kernel
theorem dX1_findBursts_33 : decode cX1_findBursts 33 = .ok (.iload_n 1, 1) := by decide +kernel
theorem dX1_findBursts_34 : decode cX1_findBursts 34 = .ok (.iload_n 2, 1) := by decide +kernel
theorem dX1_findBursts_35 : decode cX1_findBursts 35 = .ok (.ishl, 1) := by decide +kernel
theorem dX1_findBursts_36 : decode cX1_findBursts 36 = .ok (.sipush 16383, 3) := by decide +kernel
theorem dX1_findBursts_39 : decode cX1_findBursts 39 = .ok (.if_icmp .gt 10, 3) := by decide +kernel
theorem dX1_findBursts_42 : decode cX1_findBursts 42 = .ok (.aload_n 0, 1) := by decide +kernel
theorem dX1_findBursts_43 : decode cX1_findBursts 43 = .ok (.iload_n 1, 1) := by decide +kernel
theorem dX1_findBursts_44 : decode cX1_findBursts 44 = .ok (.iload_n 2, 1) := by decide +kernel
theorem dX1_findBursts_45 : decode cX1_findBursts 45 = .ok (.ishl, 1) := by decide +kernel
theorem dX1_findBursts_46 : decode cX1_findBursts 46 = .ok (.invokevirtual 61, 3) := by decide +kernel
theorem dX1_findBursts_49 : decode cX1_findBursts 49 = .ok (.iinc 2 1, 3) := by decide +kernel
theorem dX1_findBursts_52 : decode cX1_findBursts 52 = .ok (.goto (-25), 3) := by decide +kernel
theorem dX1_findBursts_55 : decode cX1_findBursts 55 = .ok (.iinc 1 2, 3) := by decide +kernel
theorem dX1_findBursts_58 : decode cX1_findBursts 58 = .ok (.goto (-43), 3) := by decide +kernel
theorem dX1_findBursts_61 : decode cX1_findBursts 61 = .ok (.aload_n 0, 1) := by decide +kernel
theorem dX1_findBursts_62 : decode cX1_findBursts 62 = .ok (.iconst 0, 1) := by decide +kernel
theorem dX1_findBursts_63 : decode cX1_findBursts 63 = .ok (.putfield 37, 3) := by decide +kernel
theorem dX1_findBursts_66 : decode cX1_findBursts 66 = .ok (.iconst 0, 1) := by decide +kernel
theorem dX1_findBursts_67 : decode cX1_findBursts 67 = .ok (.istore_n 1, 1) := by decide +kernel
theorem dX1_findBursts_68 : decode cX1_findBursts 68 = .ok (.iload_n 1, 1) := by decide +kernel
theorem dX1_findBursts_69 : decode cX1_findBursts 69 = .ok (.bipush 63, 2) := by decide +kernel
theorem dX1_findBursts_71 : decode cX1_findBursts 71 = .ok (.if_icmp .gt 48, 3) := by decide +kernel
theorem dX1_findBursts_74 : decode cX1_findBursts 74 = .ok (.aload_n 0, 1) := by decide +kernel
theorem dX1_findBursts_75 : decode cX1_findBursts 75 = .ok (.getfield 21, 3) := by decide +kernel
theorem dX1_findBursts_78 : decode cX1_findBursts 78 = .ok (.iload_n 1, 1) := by decide +kernel
theorem dX1_findBursts_79 : decode cX1_findBursts 79 = .ok (.aload_n 0, 1) := by decide +kernel
theorem dX1_findBursts_80 : decode cX1_findBursts 80 = .ok (.getfield 21, 3) := by decide +kernel
theorem dX1_findBursts_83 : decode cX1_findBursts 83 = .ok (.iload_n 1, 1) := by decide +kernel
theorem dX1_findBursts_84 : decode cX1_findBursts 84 = .ok (.iaload, 1) := by decide +kernel
theorem dX1_findBursts_85 : decode cX1_findBursts 85 = .ok (.iconst 0, 1) := by decide +kernel
theorem dX1_findBursts_86 : decode cX1_findBursts 86 = .ok (.invokestatic 65, 3) := by decide +kernel
theorem dX1_findBursts_89 : decode cX1_findBursts 89 = .ok (.iastore, 1) := by decide +kernel
theorem dX1_findBursts_90 : decode cX1_findBursts 90 = .ok (.aload_n 0, 1) := by decide +kernel
theorem dX1_findBursts_91 : decode cX1_findBursts 91 = .ok (.dup, 1) := by decide +kernel
theorem dX1_findBursts_92 : decode cX1_findBursts 92 = .ok (.getfield 37, 3) := by decide +kernel
theorem dX1_findBursts_95 : decode cX1_findBursts 95 = .ok (.aload_n 0, 1) := by decide +kernel
theorem dX1_findBursts_96 : decode cX1_findBursts 96 = .ok (.getfield 21, 3) := by decide +kernel
theorem dX1_findBursts_99 : decode cX1_findBursts 99 = .ok (.iload_n 1, 1) := by decide +kernel
theorem dX1_findBursts_100 : decode cX1_findBursts 100 = .ok (.iaload, 1) := by decide +kernel
theorem dX1_findBursts_101 : decode cX1_findBursts 101 = .ok (.ifCond .ne 7, 3) := by decide +kernel
theorem dX1_findBursts_104 : decode cX1_findBursts 104 = .ok (.iconst 0, 1) := by decide +kernel
theorem dX1_findBursts_105 : decode cX1_findBursts 105 = .ok (.goto 4, 3) := by decide +kernel
theorem dX1_findBursts_108 : decode cX1_findBursts 108 = .ok (.iconst 1, 1) := by decide +kernel
theorem dX1_findBursts_109 : decode cX1_findBursts 109 = .ok (.iadd, 1) := by decide +kernel
theorem dX1_findBursts_110 : decode cX1_findBursts 110 = .ok (.putfield 37, 3) := by decide +kernel
theorem dX1_findBursts_113 : decode cX1_findBursts 113 = .ok (.iinc 1 1, 3) := by decide +kernel
theorem dX1_findBursts_116 : decode cX1_findBursts 116 = .ok (.goto (-48), 3) := by decide +kernel
theorem dX1_findBursts_119 : decode cX1_findBursts 119 = .ok (.return_, 1) := by decide +kernel
theorem dX1_noteBurst_0 : decode cX1_noteBurst 0 = .ok (.aload_n 0, 1) := by decide +kernel
theorem dX1_noteBurst_1 : decode cX1_noteBurst 1 = .ok (.iload_n 1, 1) := by decide +kernel
theorem dX1_noteBurst_2 : decode cX1_noteBurst 2 = .ok (.invokevirtual 71, 3) := by decide +kernel
theorem dX1_noteBurst_5 : decode cX1_noteBurst 5 = .ok (.istore_n 2, 1) := by decide +kernel
theorem dX1_noteBurst_6 : decode cX1_noteBurst 6 = .ok (.aload_n 0, 1) := by decide +kernel
theorem dX1_noteBurst_7 : decode cX1_noteBurst 7 = .ok (.getfield 21, 3) := by decide +kernel
theorem dX1_noteBurst_10 : decode cX1_noteBurst 10 = .ok (.iload_n 2, 1) := by decide +kernel
theorem dX1_noteBurst_11 : decode cX1_noteBurst 11 = .ok (.iload_n 2, 1) := by decide +kernel
theorem dX1_noteBurst_12 : decode cX1_noteBurst 12 = .ok (.ifCond .eq 12, 3) := by decide +kernel
theorem dX1_noteBurst_15 : decode cX1_noteBurst 15 = .ok (.aload_n 0, 1) := by decide +kernel
theorem dX1_noteBurst_16 : decode cX1_noteBurst 16 = .ok (.getfield 21, 3) := by decide +kernel
theorem dX1_noteBurst_19 : decode cX1_noteBurst 19 = .ok (.iload_n 2, 1) := by decide +kernel
theorem dX1_noteBurst_20 : decode cX1_noteBurst 20 = .ok (.iaload, 1) := by decide +kernel
theorem dX1_noteBurst_21 : decode cX1_noteBurst 21 = .ok (.ifCond .eq 7, 3) := by decide +kernel
theorem dX1_noteBurst_24 : decode cX1_noteBurst 24 = .ok (.iconst (-1), 1) := by decide +kernel
theorem dX1_noteBurst_25 : decode cX1_noteBurst 25 = .ok (.goto 4, 3) := by decide +kernel
theorem dX1_noteBurst_28 : decode cX1_noteBurst 28 = .ok (.iload_n 1, 1) := by decide +kernel
theorem dX1_noteBurst_29 : decode cX1_noteBurst 29 = .ok (.iastore, 1) := by decide +kernel
theorem dX1_noteBurst_30 : decode cX1_noteBurst 30 = .ok (.aload_n 0, 1) := by decide +kernel
theorem dX1_noteBurst_31 : decode cX1_noteBurst 31 = .ok (.dup, 1) := by decide +kernel
theorem dX1_noteBurst_32 : decode cX1_noteBurst 32 = .ok (.getfield 34, 3) := by decide +kernel
theorem dX1_noteBurst_35 : decode cX1_noteBurst 35 = .ok (.iconst 1, 1) := by decide +kernel
theorem dX1_noteBurst_36 : decode cX1_noteBurst 36 = .ok (.iadd, 1) := by decide +kernel
theorem dX1_noteBurst_37 : decode cX1_noteBurst 37 = .ok (.putfield 34, 3) := by decide +kernel
theorem dX1_noteBurst_40 : decode cX1_noteBurst 40 = .ok (.return_, 1) := by decide +kernel
theorem dX1_restOf_0 : decode cX1_restOf 0 = .ok (.aload_n 0, 1) := by decide +kernel
theorem dX1_restOf_1 : decode cX1_restOf 1 = .ok (.getfield 15, 3) := by decide +kernel
theorem dX1_restOf_4 : decode cX1_restOf 4 = .ok (.iload_n 1, 1) := by decide +kernel
theorem dX1_restOf_5 : decode cX1_restOf 5 = .ok (.bipush 6, 2) := by decide +kernel
theorem dX1_restOf_7 : decode cX1_restOf 7 = .ok (.ishr, 1) := by decide +kernel
theorem dX1_restOf_8 : decode cX1_restOf 8 = .ok (.sipush 255, 3) := by decide +kernel
theorem dX1_restOf_11 : decode cX1_restOf 11 = .ok (.iand, 1) := by decide +kernel
theorem dX1_restOf_12 : decode cX1_restOf 12 = .ok (.iaload, 1) := by decide +kernel
theorem dX1_restOf_13 : decode cX1_restOf 13 = .ok (.iload_n 1, 1) := by decide +kernel
theorem dX1_restOf_14 : decode cX1_restOf 14 = .ok (.bipush 63, 2) := by decide +kernel
theorem dX1_restOf_16 : decode cX1_restOf 16 = .ok (.iand, 1) := by decide +kernel
theorem dX1_restOf_17 : decode cX1_restOf 17 = .ok (.ixor, 1) := by decide +kernel
theorem dX1_restOf_18 : decode cX1_restOf 18 = .ok (.ireturn, 1) := by decide +kernel
theorem dX1_restFor_0 : decode cX1_restFor 0 = .ok (.aload_n 0, 1) := by decide +kernel
theorem dX1_restFor_1 : decode cX1_restFor 1 = .ok (.iload_n 2, 1) := by decide +kernel
theorem dX1_restFor_2 : decode cX1_restFor 2 = .ok (.invokevirtual 71, 3) := by decide +kernel
theorem dX1_restFor_5 : decode cX1_restFor 5 = .ok (.aload_n 0, 1) := by decide +kernel
theorem dX1_restFor_6 : decode cX1_restFor 6 = .ok (.getfield 9, 3) := by decide +kernel
theorem dX1_restFor_9 : decode cX1_restFor 9 = .ok (.iload_n 1, 1) := by decide +kernel
theorem dX1_restFor_10 : decode cX1_restFor 10 = .ok (.iaload, 1) := by decide +kernel
theorem dX1_restFor_11 : decode cX1_restFor 11 = .ok (.ixor, 1) := by decide +kernel
theorem dX1_restFor_12 : decode cX1_restFor 12 = .ok (.ireturn, 1) := by decide +kernel
theorem dX1_plainWord_0 : decode cX1_plainWord 0 = .ok (.iload_n 1, 1) := by decide +kernel
theorem dX1_plainWord_1 : decode cX1_plainWord 1 = .ok (.bipush 6, 2) := by decide +kernel
theorem dX1_plainWord_3 : decode cX1_plainWord 3 = .ok (.ishl, 1) := by decide +kernel
theorem dX1_plainWord_4 : decode cX1_plainWord 4 = .ok (.aload_n 0, 1) := by decide +kernel
theorem dX1_plainWord_5 : decode cX1_plainWord 5 = .ok (.getfield 15, 3) := by decide +kernel
theorem dX1_plainWord_8 : decode cX1_plainWord 8 = .ok (.iload_n 1, 1) := by decide +kernel
theorem dX1_plainWord_9 : decode cX1_plainWord 9 = .ok (.iaload, 1) := by decide +kernel
theorem dX1_plainWord_10 : decode cX1_plainWord 10 = .ok (.ior, 1) := by decide +kernel
theorem dX1_plainWord_11 : decode cX1_plainWord 11 = .ok (.ireturn, 1) := by decide +kernel
theorem dX1_wordOf_0 : decode cX1_wordOf 0 = .ok (.aload_n 0, 1) := by decide +kernel
theorem dX1_wordOf_1 : decode cX1_wordOf 1 = .ok (.iload_n 2, 1) := by decide +kernel
theorem dX1_wordOf_2 : decode cX1_wordOf 2 = .ok (.invokevirtual 74, 3) := by decide +kernel
theorem dX1_wordOf_5 : decode cX1_wordOf 5 = .ok (.aload_n 0, 1) := by decide +kernel
theorem dX1_wordOf_6 : decode cX1_wordOf 6 = .ok (.getfield 9, 3) := by decide +kernel
theorem dX1_wordOf_9 : decode cX1_wordOf 9 = .ok (.iload_n 1, 1) := by decide +kernel
theorem dX1_wordOf_10 : decode cX1_wordOf 10 = .ok (.iaload, 1) := by decide +kernel
theorem dX1_wordOf_11 : decode cX1_wordOf 11 = .ok (.ixor, 1) := by decide +kernel
theorem dX1_wordOf_12 : decode cX1_wordOf 12 = .ok (.ireturn, 1) := by decide +kernel
theorem dX1_hitOf_0 : decode cX1_hitOf 0 = .ok (.aload_n 0, 1) := by decide +kernel
theorem dX1_hitOf_1 : decode cX1_hitOf 1 = .ok (.getfield 18, 3) := by decide +kernel
theorem dX1_hitOf_4 : decode cX1_hitOf 4 = .ok (.aload_n 0, 1) := by decide +kernel
theorem dX1_hitOf_5 : decode cX1_hitOf 5 = .ok (.iload_n 1, 1) := by decide +kernel
theorem dX1_hitOf_6 : decode cX1_hitOf 6 = .ok (.invokevirtual 71, 3) := by decide +kernel
theorem dX1_hitOf_9 : decode cX1_hitOf 9 = .ok (.iaload, 1) := by decide +kernel
theorem dX1_hitOf_10 : decode cX1_hitOf 10 = .ok (.ireturn, 1) := by decide +kernel
theorem dX1_blockOf_0 : decode cX1_blockOf 0 = .ok (.aload_n 0, 1) := by decide +kernel
theorem dX1_blockOf_1 : decode cX1_blockOf 1 = .ok (.iload_n 1, 1) := by decide +kernel
theorem dX1_blockOf_2 : decode cX1_blockOf 2 = .ok (.iload_n 2, 1) := by decide +kernel
theorem dX1_blockOf_3 : decode cX1_blockOf 3 = .ok (.invokevirtual 77, 3) := by decide +kernel
theorem dX1_blockOf_6 : decode cX1_blockOf 6 = .ok (.istore_n 3, 1) := by decide +kernel
theorem dX1_blockOf_7 : decode cX1_blockOf 7 = .ok (.iload_n 3, 1) := by decide +kernel
theorem dX1_blockOf_8 : decode cX1_blockOf 8 = .ok (.ifCond .ne 5, 3) := by decide +kernel
theorem dX1_blockOf_11 : decode cX1_blockOf 11 = .ok (.iload_n 2, 1) := by decide +kernel
theorem dX1_blockOf_12 : decode cX1_blockOf 12 = .ok (.ireturn, 1) := by decide +kernel
theorem dX1_blockOf_13 : decode cX1_blockOf 13 = .ok (.aload_n 0, 1) := by decide +kernel
theorem dX1_blockOf_14 : decode cX1_blockOf 14 = .ok (.getfield 21, 3) := by decide +kernel
theorem dX1_blockOf_17 : decode cX1_blockOf 17 = .ok (.iload_n 3, 1) := by decide +kernel
theorem dX1_blockOf_18 : decode cX1_blockOf 18 = .ok (.iaload, 1) := by decide +kernel
theorem dX1_blockOf_19 : decode cX1_blockOf 19 = .ok (.ifCond .ne 8, 3) := by decide +kernel
theorem dX1_blockOf_22 : decode cX1_blockOf 22 = .ok (.bipush (-9), 2) := by decide +kernel
theorem dX1_blockOf_24 : decode cX1_blockOf 24 = .ok (.goto 11, 3) := by decide +kernel
theorem dX1_blockOf_27 : decode cX1_blockOf 27 = .ok (.iload_n 2, 1) := by decide +kernel
theorem dX1_blockOf_28 : decode cX1_blockOf 28 = .ok (.aload_n 0, 1) := by decide +kernel
theorem dX1_blockOf_29 : decode cX1_blockOf 29 = .ok (.getfield 21, 3) := by decide +kernel
theorem dX1_blockOf_32 : decode cX1_blockOf 32 = .ok (.iload_n 3, 1) := by decide +kernel
theorem dX1_blockOf_33 : decode cX1_blockOf 33 = .ok (.iaload, 1) := by decide +kernel
theorem dX1_blockOf_34 : decode cX1_blockOf 34 = .ok (.ixor, 1) := by decide +kernel
theorem dX1_blockOf_35 : decode cX1_blockOf 35 = .ok (.ireturn, 1) := by decide +kernel
theorem dX1_fateOf_0 : decode cX1_fateOf 0 = .ok (.aload_n 0, 1) := by decide +kernel
theorem dX1_fateOf_1 : decode cX1_fateOf 1 = .ok (.iload_n 1, 1) := by decide +kernel
theorem dX1_fateOf_2 : decode cX1_fateOf 2 = .ok (.invokevirtual 71, 3) := by decide +kernel
theorem dX1_fateOf_5 : decode cX1_fateOf 5 = .ok (.istore_n 2, 1) := by decide +kernel
theorem dX1_fateOf_6 : decode cX1_fateOf 6 = .ok (.iload_n 2, 1) := by decide +kernel
theorem dX1_fateOf_7 : decode cX1_fateOf 7 = .ok (.ifCond .ne 5, 3) := by decide +kernel
theorem dX1_fateOf_10 : decode cX1_fateOf 10 = .ok (.iconst 0, 1) := by decide +kernel
theorem dX1_fateOf_11 : decode cX1_fateOf 11 = .ok (.ireturn, 1) := by decide +kernel
theorem dX1_fateOf_12 : decode cX1_fateOf 12 = .ok (.aload_n 0, 1) := by decide +kernel
theorem dX1_fateOf_13 : decode cX1_fateOf 13 = .ok (.getfield 21, 3) := by decide +kernel
theorem dX1_fateOf_16 : decode cX1_fateOf 16 = .ok (.iload_n 2, 1) := by decide +kernel
theorem dX1_fateOf_17 : decode cX1_fateOf 17 = .ok (.iaload, 1) := by decide +kernel
theorem dX1_fateOf_18 : decode cX1_fateOf 18 = .ok (.ifCond .ne 5, 3) := by decide +kernel
theorem dX1_fateOf_21 : decode cX1_fateOf 21 = .ok (.iconst 3, 1) := by decide +kernel
theorem dX1_fateOf_22 : decode cX1_fateOf 22 = .ok (.ireturn, 1) := by decide +kernel
theorem dX1_fateOf_23 : decode cX1_fateOf 23 = .ok (.aload_n 0, 1) := by decide +kernel
theorem dX1_fateOf_24 : decode cX1_fateOf 24 = .ok (.getfield 21, 3) := by decide +kernel
theorem dX1_fateOf_27 : decode cX1_fateOf 27 = .ok (.iload_n 2, 1) := by decide +kernel
theorem dX1_fateOf_28 : decode cX1_fateOf 28 = .ok (.iaload, 1) := by decide +kernel
theorem dX1_fateOf_29 : decode cX1_fateOf 29 = .ok (.iload_n 1, 1) := by decide +kernel
theorem dX1_fateOf_30 : decode cX1_fateOf 30 = .ok (.if_icmp .ne 7, 3) := by decide +kernel
theorem dX1_fateOf_33 : decode cX1_fateOf 33 = .ok (.iconst 1, 1) := by decide +kernel
theorem dX1_fateOf_34 : decode cX1_fateOf 34 = .ok (.goto 4, 3) := by decide +kernel
theorem dX1_fateOf_37 : decode cX1_fateOf 37 = .ok (.iconst 2, 1) := by decide +kernel
theorem dX1_fateOf_38 : decode cX1_fateOf 38 = .ok (.ireturn, 1) := by decide +kernel
theorem dX1_groupRow_0 : decode cX1_groupRow 0 = .ok (.lconst 0, 1) := by decide +kernel
theorem dX1_groupRow_1 : decode cX1_groupRow 1 = .ok (.lstore_n 2, 1) := by decide +kernel
theorem dX1_groupRow_2 : decode cX1_groupRow 2 = .ok (.iconst 0, 1) := by decide +kernel
theorem dX1_groupRow_3 : decode cX1_groupRow 3 = .ok (.istore 4, 2) := by decide +kernel
theorem dX1_groupRow_5 : decode cX1_groupRow 5 = .ok (.iload 4, 2) := by decide +kernel
theorem dX1_groupRow_7 : decode cX1_groupRow 7 = .ok (.iconst 4, 1) := by decide +kernel
theorem dX1_groupRow_8 : decode cX1_groupRow 8 = .ok (.if_icmp .ge 39, 3) := by decide +kernel
theorem dX1_groupRow_11 : decode cX1_groupRow 11 = .ok (.iload_n 1, 1) := by decide +kernel
theorem dX1_groupRow_12 : decode cX1_groupRow 12 = .ok (.bipush 8, 2) := by decide +kernel
theorem dX1_groupRow_14 : decode cX1_groupRow 14 = .ok (.iconst 3, 1) := by decide +kernel
theorem dX1_groupRow_15 : decode cX1_groupRow 15 = .ok (.iload 4, 2) := by decide +kernel
theorem dX1_groupRow_17 : decode cX1_groupRow 17 = .ok (.isub, 1) := by decide +kernel
theorem dX1_groupRow_18 : decode cX1_groupRow 18 = .ok (.imul, 1) := by decide +kernel
theorem dX1_groupRow_19 : decode cX1_groupRow 19 = .ok (.ishr, 1) := by decide +kernel
theorem dX1_groupRow_20 : decode cX1_groupRow 20 = .ok (.sipush 255, 3) := by decide +kernel
theorem dX1_groupRow_23 : decode cX1_groupRow 23 = .ok (.iand, 1) := by decide +kernel
theorem dX1_groupRow_24 : decode cX1_groupRow 24 = .ok (.istore 5, 2) := by decide +kernel
theorem dX1_groupRow_26 : decode cX1_groupRow 26 = .ok (.lload_n 2, 1) := by decide +kernel
theorem dX1_groupRow_27 : decode cX1_groupRow 27 = .ok (.bipush 14, 2) := by decide +kernel
theorem dX1_groupRow_29 : decode cX1_groupRow 29 = .ok (.lshl, 1) := by decide +kernel
theorem dX1_groupRow_30 : decode cX1_groupRow 30 = .ok (.aload_n 0, 1) := by decide +kernel
theorem dX1_groupRow_31 : decode cX1_groupRow 31 = .ok (.iload 4, 2) := by decide +kernel
theorem dX1_groupRow_33 : decode cX1_groupRow 33 = .ok (.iload 5, 2) := by decide +kernel
theorem dX1_groupRow_35 : decode cX1_groupRow 35 = .ok (.invokevirtual 80, 3) := by decide +kernel
theorem dX1_groupRow_38 : decode cX1_groupRow 38 = .ok (.i2l, 1) := by decide +kernel
theorem dX1_groupRow_39 : decode cX1_groupRow 39 = .ok (.lor, 1) := by decide +kernel
theorem dX1_groupRow_40 : decode cX1_groupRow 40 = .ok (.lstore_n 2, 1) := by decide +kernel
theorem dX1_groupRow_41 : decode cX1_groupRow 41 = .ok (.iinc 4 1, 3) := by decide +kernel
theorem dX1_groupRow_44 : decode cX1_groupRow 44 = .ok (.goto (-39), 3) := by decide +kernel
theorem dX1_groupRow_47 : decode cX1_groupRow 47 = .ok (.lload_n 2, 1) := by decide +kernel
theorem dX1_groupRow_48 : decode cX1_groupRow 48 = .ok (.lreturn, 1) := by decide +kernel
end
section
theorem dX2_init_0 : decode cX2_init 0 = .ok (.aload_n 0, 1) := by decide +kernel
theorem dX2_init_1 : decode cX2_init 1 = .ok (.invokespecial 3, 3) := by decide +kernel
theorem dX2_init_4 : decode cX2_init 4 = .ok (.aload_n 0, 1) := by decide +kernel
theorem dX2_init_5 : decode cX2_init 5 = .ok (.new 9, 3) := by decide +kernel
theorem dX2_init_8 : decode cX2_init 8 = .ok (.dup, 1) := by decide +kernel
theorem dX2_init_9 : decode cX2_init 9 = .ok (.invokespecial 11, 3) := by decide +kernel
theorem dX2_init_12 : decode cX2_init 12 = .ok (.putfield 12, 3) := by decide +kernel
theorem dX2_init_15 : decode cX2_init 15 = .ok (.aload_n 0, 1) := by decide +kernel
theorem dX2_init_16 : decode cX2_init 16 = .ok (.iconst 4, 1) := by decide +kernel
theorem dX2_init_17 : decode cX2_init 17 = .ok (.newarray .int, 2) := by decide +kernel
theorem dX2_init_19 : decode cX2_init 19 = .ok (.putfield 18, 3) := by decide +kernel
theorem dX2_init_22 : decode cX2_init 22 = .ok (.aload_n 0, 1) := by decide +kernel
theorem dX2_init_23 : decode cX2_init 23 = .ok (.invokevirtual 22, 3) := by decide +kernel
theorem dX2_init_26 : decode cX2_init 26 = .ok (.return_, 1) := by decide +kernel
theorem dX2_clear_0 : decode cX2_clear 0 = .ok (.aload_n 0, 1) := by decide +kernel
theorem dX2_clear_1 : decode cX2_clear 1 = .ok (.iconst 0, 1) := by decide +kernel
theorem dX2_clear_2 : decode cX2_clear 2 = .ok (.putfield 25, 3) := by decide +kernel
theorem dX2_clear_5 : decode cX2_clear 5 = .ok (.aload_n 0, 1) := by decide +kernel
theorem dX2_clear_6 : decode cX2_clear 6 = .ok (.iconst 0, 1) := by decide +kernel
theorem dX2_clear_7 : decode cX2_clear 7 = .ok (.putfield 29, 3) := by decide +kernel
theorem dX2_clear_10 : decode cX2_clear 10 = .ok (.aload_n 0, 1) := by decide +kernel
theorem dX2_clear_11 : decode cX2_clear 11 = .ok (.iconst 0, 1) := by decide +kernel
theorem dX2_clear_12 : decode cX2_clear 12 = .ok (.putfield 32, 3) := by decide +kernel
theorem dX2_clear_15 : decode cX2_clear 15 = .ok (.aload_n 0, 1) := by decide +kernel
theorem dX2_clear_16 : decode cX2_clear 16 = .ok (.iconst 0, 1) := by decide +kernel
theorem dX2_clear_17 : decode cX2_clear 17 = .ok (.putfield 35, 3) := by decide +kernel
theorem dX2_clear_20 : decode cX2_clear 20 = .ok (.aload_n 0, 1) := by decide +kernel
theorem dX2_clear_21 : decode cX2_clear 21 = .ok (.iconst 0, 1) := by decide +kernel
theorem dX2_clear_22 : decode cX2_clear 22 = .ok (.putfield 39, 3) := by decide +kernel
theorem dX2_clear_25 : decode cX2_clear 25 = .ok (.aload_n 0, 1) := by decide +kernel
theorem dX2_clear_26 : decode cX2_clear 26 = .ok (.iconst 0, 1) := by decide +kernel
theorem dX2_clear_27 : decode cX2_clear 27 = .ok (.putfield 42, 3) := by decide +kernel
theorem dX2_clear_30 : decode cX2_clear 30 = .ok (.aload_n 0, 1) := by decide +kernel
theorem dX2_clear_31 : decode cX2_clear 31 = .ok (.iconst 0, 1) := by decide +kernel
theorem dX2_clear_32 : decode cX2_clear 32 = .ok (.putfield 45, 3) := by decide +kernel
theorem dX2_clear_35 : decode cX2_clear 35 = .ok (.aload_n 0, 1) := by decide +kernel
theorem dX2_clear_36 : decode cX2_clear 36 = .ok (.iconst 0, 1) := by decide +kernel
theorem dX2_clear_37 : decode cX2_clear 37 = .ok (.putfield 48, 3) := by decide +kernel
theorem dX2_clear_40 : decode cX2_clear 40 = .ok (.aload_n 0, 1) := by decide +kernel
theorem dX2_clear_41 : decode cX2_clear 41 = .ok (.iconst 0, 1) := by decide +kernel
theorem dX2_clear_42 : decode cX2_clear 42 = .ok (.putfield 51, 3) := by decide +kernel
theorem dX2_clear_45 : decode cX2_clear 45 = .ok (.aload_n 0, 1) := by decide +kernel
theorem dX2_clear_46 : decode cX2_clear 46 = .ok (.iconst 0, 1) := by decide +kernel
theorem dX2_clear_47 : decode cX2_clear 47 = .ok (.putfield 54, 3) := by decide +kernel
theorem dX2_clear_50 : decode cX2_clear 50 = .ok (.aload_n 0, 1) := by decide +kernel
theorem dX2_clear_51 : decode cX2_clear 51 = .ok (.iconst 0, 1) := by decide +kernel
theorem dX2_clear_52 : decode cX2_clear 52 = .ok (.putfield 57, 3) := by decide +kernel
theorem dX2_clear_55 : decode cX2_clear 55 = .ok (.aload_n 0, 1) := by decide +kernel
theorem dX2_clear_56 : decode cX2_clear 56 = .ok (.iconst 0, 1) := by decide +kernel
theorem dX2_clear_57 : decode cX2_clear 57 = .ok (.putfield 60, 3) := by decide +kernel
theorem dX2_clear_60 : decode cX2_clear 60 = .ok (.aload_n 0, 1) := by decide +kernel
theorem dX2_clear_61 : decode cX2_clear 61 = .ok (.bipush (-9), 2) := by decide +kernel
theorem dX2_clear_63 : decode cX2_clear 63 = .ok (.putfield 63, 3) := by decide +kernel
theorem dX2_clear_66 : decode cX2_clear 66 = .ok (.aload_n 0, 1) := by decide +kernel
theorem dX2_clear_67 : decode cX2_clear 67 = .ok (.getfield 18, 3) := by decide +kernel
theorem dX2_clear_70 : decode cX2_clear 70 = .ok (.bipush (-9), 2) := by decide +kernel
theorem dX2_clear_72 : decode cX2_clear 72 = .ok (.invokestatic 66, 3) := by decide +kernel
theorem dX2_clear_75 : decode cX2_clear 75 = .ok (.aload_n 0, 1) := by decide +kernel
theorem dX2_clear_76 : decode cX2_clear 76 = .ok (.getfield 12, 3) := by decide +kernel
theorem dX2_clear_79 : decode cX2_clear 79 = .ok (.invokevirtual 72, 3) := by decide +kernel
theorem dX2_clear_82 : decode cX2_clear 82 = .ok (.return_, 1) := by decide +kernel
theorem dX2_copyFrom_0 : decode cX2_copyFrom 0 = .ok (.aload_n 0, 1) := by decide +kernel
theorem dX2_copyFrom_1 : decode cX2_copyFrom 1 = .ok (.aload_n 1, 1) := by decide +kernel
theorem dX2_copyFrom_2 : decode cX2_copyFrom 2 = .ok (.getfield 25, 3) := by decide +kernel
theorem dX2_copyFrom_5 : decode cX2_copyFrom 5 = .ok (.putfield 25, 3) := by decide +kernel
theorem dX2_copyFrom_8 : decode cX2_copyFrom 8 = .ok (.aload_n 0, 1) := by decide +kernel
theorem dX2_copyFrom_9 : decode cX2_copyFrom 9 = .ok (.aload_n 1, 1) := by decide +kernel
theorem dX2_copyFrom_10 : decode cX2_copyFrom 10 = .ok (.getfield 29, 3) := by decide +kernel
theorem dX2_copyFrom_13 : decode cX2_copyFrom 13 = .ok (.putfield 29, 3) := by decide +kernel
theorem dX2_copyFrom_16 : decode cX2_copyFrom 16 = .ok (.aload_n 0, 1) := by decide +kernel
theorem dX2_copyFrom_17 : decode cX2_copyFrom 17 = .ok (.aload_n 1, 1) := by decide +kernel
theorem dX2_copyFrom_18 : decode cX2_copyFrom 18 = .ok (.getfield 32, 3) := by decide +kernel
theorem dX2_copyFrom_21 : decode cX2_copyFrom 21 = .ok (.putfield 32, 3) := by decide +kernel
theorem dX2_copyFrom_24 : decode cX2_copyFrom 24 = .ok (.aload_n 0, 1) := by decide +kernel
theorem dX2_copyFrom_25 : decode cX2_copyFrom 25 = .ok (.aload_n 1, 1) := by decide +kernel
theorem dX2_copyFrom_26 : decode cX2_copyFrom 26 = .ok (.getfield 35, 3) := by decide +kernel
theorem dX2_copyFrom_29 : decode cX2_copyFrom 29 = .ok (.putfield 35, 3) := by decide +kernel
theorem dX2_copyFrom_32 : decode cX2_copyFrom 32 = .ok (.aload_n 0, 1) := by decide +kernel
theorem dX2_copyFrom_33 : decode cX2_copyFrom 33 = .ok (.aload_n 1, 1) := by decide +kernel
theorem dX2_copyFrom_34 : decode cX2_copyFrom 34 = .ok (.getfield 39, 3) := by decide +kernel
theorem dX2_copyFrom_37 : decode cX2_copyFrom 37 = .ok (.putfield 39, 3) := by decide +kernel
theorem dX2_copyFrom_40 : decode cX2_copyFrom 40 = .ok (.aload_n 0, 1) := by decide +kernel
theorem dX2_copyFrom_41 : decode cX2_copyFrom 41 = .ok (.aload_n 1, 1) := by decide +kernel
theorem dX2_copyFrom_42 : decode cX2_copyFrom 42 = .ok (.getfield 42, 3) := by decide +kernel
theorem dX2_copyFrom_45 : decode cX2_copyFrom 45 = .ok (.putfield 42, 3) := by decide +kernel
theorem dX2_copyFrom_48 : decode cX2_copyFrom 48 = .ok (.aload_n 0, 1) := by decide +kernel
theorem dX2_copyFrom_49 : decode cX2_copyFrom 49 = .ok (.aload_n 1, 1) := by decide +kernel
theorem dX2_copyFrom_50 : decode cX2_copyFrom 50 = .ok (.getfield 45, 3) := by decide +kernel
theorem dX2_copyFrom_53 : decode cX2_copyFrom 53 = .ok (.putfield 45, 3) := by decide +kernel
theorem dX2_copyFrom_56 : decode cX2_copyFrom 56 = .ok (.aload_n 0, 1) := by decide +kernel
theorem dX2_copyFrom_57 : decode cX2_copyFrom 57 = .ok (.aload_n 1, 1) := by decide +kernel
theorem dX2_copyFrom_58 : decode cX2_copyFrom 58 = .ok (.getfield 48, 3) := by decide +kernel
theorem dX2_copyFrom_61 : decode cX2_copyFrom 61 = .ok (.putfield 48, 3) := by decide +kernel
theorem dX2_copyFrom_64 : decode cX2_copyFrom 64 = .ok (.aload_n 0, 1) := by decide +kernel
theorem dX2_copyFrom_65 : decode cX2_copyFrom 65 = .ok (.aload_n 1, 1) := by decide +kernel
theorem dX2_copyFrom_66 : decode cX2_copyFrom 66 = .ok (.getfield 51, 3) := by decide +kernel
theorem dX2_copyFrom_69 : decode cX2_copyFrom 69 = .ok (.putfield 51, 3) := by decide +kernel
theorem dX2_copyFrom_72 : decode cX2_copyFrom 72 = .ok (.aload_n 0, 1) := by decide +kernel
theorem dX2_copyFrom_73 : decode cX2_copyFrom 73 = .ok (.aload_n 1, 1) := by decide +kernel
theorem dX2_copyFrom_74 : decode cX2_copyFrom 74 = .ok (.getfield 54, 3) := by decide +kernel
theorem dX2_copyFrom_77 : decode cX2_copyFrom 77 = .ok (.putfield 54, 3) := by decide +kernel
theorem dX2_copyFrom_80 : decode cX2_copyFrom 80 = .ok (.aload_n 0, 1) := by decide +kernel
theorem dX2_copyFrom_81 : decode cX2_copyFrom 81 = .ok (.aload_n 1, 1) := by decide +kernel
theorem dX2_copyFrom_82 : decode cX2_copyFrom 82 = .ok (.getfield 57, 3) := by decide +kernel
theorem dX2_copyFrom_85 : decode cX2_copyFrom 85 = .ok (.putfield 57, 3) := by decide +kernel
theorem dX2_copyFrom_88 : decode cX2_copyFrom 88 = .ok (.aload_n 0, 1) := by decide +kernel
theorem dX2_copyFrom_89 : decode cX2_copyFrom 89 = .ok (.aload_n 1, 1) := by decide +kernel
theorem dX2_copyFrom_90 : decode cX2_copyFrom 90 = .ok (.getfield 60, 3) := by decide +kernel
theorem dX2_copyFrom_93 : decode cX2_copyFrom 93 = .ok (.putfield 60, 3) := by decide +kernel
theorem dX2_copyFrom_96 : decode cX2_copyFrom 96 = .ok (.aload_n 0, 1) := by decide +kernel
theorem dX2_copyFrom_97 : decode cX2_copyFrom 97 = .ok (.aload_n 1, 1) := by decide +kernel
theorem dX2_copyFrom_98 : decode cX2_copyFrom 98 = .ok (.getfield 63, 3) := by decide +kernel
theorem dX2_copyFrom_101 : decode cX2_copyFrom 101 = .ok (.putfield 63, 3) := by decide +kernel
theorem dX2_copyFrom_104 : decode cX2_copyFrom 104 = .ok (.aload_n 1, 1) := by decide +kernel
theorem dX2_copyFrom_105 : decode cX2_copyFrom 105 = .ok (.getfield 18, 3) := by decide +kernel
theorem dX2_copyFrom_108 : decode cX2_copyFrom 108 = .ok (.iconst 0, 1) := by decide +kernel
theorem dX2_copyFrom_109 : decode cX2_copyFrom 109 = .ok (.aload_n 0, 1) := by decide +kernel
theorem dX2_copyFrom_110 : decode cX2_copyFrom 110 = .ok (.getfield 18, 3) := by decide +kernel
theorem dX2_copyFrom_113 : decode cX2_copyFrom 113 = .ok (.iconst 0, 1) := by decide +kernel
theorem dX2_copyFrom_114 : decode cX2_copyFrom 114 = .ok (.iconst 4, 1) := by decide +kernel
theorem dX2_copyFrom_115 : decode cX2_copyFrom 115 = .ok (.invokestatic 73, 3) := by decide +kernel
theorem dX2_copyFrom_118 : decode cX2_copyFrom 118 = .ok (.aload_n 0, 1) := by decide +kernel
theorem dX2_copyFrom_119 : decode cX2_copyFrom 119 = .ok (.getfield 12, 3) := by decide +kernel
theorem dX2_copyFrom_122 : decode cX2_copyFrom 122 = .ok (.aload_n 1, 1) := by decide +kernel
theorem dX2_copyFrom_123 : decode cX2_copyFrom 123 = .ok (.getfield 12, 3) := by decide +kernel
theorem dX2_copyFrom_126 : decode cX2_copyFrom 126 = .ok (.invokevirtual 79, 3) := by decide +kernel
theorem dX2_copyFrom_129 : decode cX2_copyFrom 129 = .ok (.return_, 1) := by decide +kernel
theorem dX2_syncBit_0 : decode cX2_syncBit 0 = .ok (.aload_n 0, 1) := by decide +kernel
theorem dX2_syncBit_1 : decode cX2_syncBit 1 = .ok (.getfield 35, 3) := by decide +kernel
theorem dX2_syncBit_4 : decode cX2_syncBit 4 = .ok (.ifCond .eq 7, 3) := by decide +kernel
theorem dX2_syncBit_7 : decode cX2_syncBit 7 = .ok (.iconst 1, 1) := by decide +kernel
theorem dX2_syncBit_8 : decode cX2_syncBit 8 = .ok (.goto 4, 3) := by decide +kernel
theorem dX2_syncBit_11 : decode cX2_syncBit 11 = .ok (.iconst 0, 1) := by decide +kernel
theorem dX2_syncBit_12 : decode cX2_syncBit 12 = .ok (.ireturn, 1) := by decide +kernel
theorem dX2_tell_0 : decode cX2_tell 0 = .ok (.iload_n 1, 1) := by decide +kernel
theorem dX2_tell_1 : decode cX2_tell 1 = .ok (.tableswitch 141 3 12 #[55, 60, 65, 70, 87, 104, 121, 126, 131, 136], 55) := by decide +kernel
theorem dX2_tell_56 : decode cX2_tell 56 = .ok (.aload_n 0, 1) := by decide +kernel
theorem dX2_tell_57 : decode cX2_tell 57 = .ok (.getfield 29, 3) := by decide +kernel
theorem dX2_tell_60 : decode cX2_tell 60 = .ok (.ireturn, 1) := by decide +kernel
theorem dX2_tell_61 : decode cX2_tell 61 = .ok (.aload_n 0, 1) := by decide +kernel
theorem dX2_tell_62 : decode cX2_tell 62 = .ok (.getfield 25, 3) := by decide +kernel
theorem dX2_tell_65 : decode cX2_tell 65 = .ok (.ireturn, 1) := by decide +kernel
theorem dX2_tell_66 : decode cX2_tell 66 = .ok (.aload_n 0, 1) := by decide +kernel
theorem dX2_tell_67 : decode cX2_tell 67 = .ok (.invokevirtual 83, 3) := by decide +kernel
theorem dX2_tell_70 : decode cX2_tell 70 = .ok (.ireturn, 1) := by decide +kernel
theorem dX2_tell_71 : decode cX2_tell 71 = .ok (.aload_n 0, 1) := by decide +kernel
theorem dX2_tell_72 : decode cX2_tell 72 = .ok (.getfield 35, 3) := by decide +kernel
theorem dX2_tell_75 : decode cX2_tell 75 = .ok (.ifCond .eq 10, 3) := by decide +kernel
theorem dX2_tell_78 : decode cX2_tell 78 = .ok (.aload_n 0, 1) := by decide +kernel
theorem dX2_tell_79 : decode cX2_tell 79 = .ok (.getfield 39, 3) := by decide +kernel
theorem dX2_tell_82 : decode cX2_tell 82 = .ok (.goto 5, 3) := by decide +kernel
theorem dX2_tell_85 : decode cX2_tell 85 = .ok (.bipush (-9), 2) := by decide +kernel
theorem dX2_tell_87 : decode cX2_tell 87 = .ok (.ireturn, 1) := by decide +kernel
theorem dX2_tell_88 : decode cX2_tell 88 = .ok (.aload_n 0, 1) := by decide +kernel
theorem dX2_tell_89 : decode cX2_tell 89 = .ok (.getfield 35, 3) := by decide +kernel
theorem dX2_tell_92 : decode cX2_tell 92 = .ok (.ifCond .eq 10, 3) := by decide +kernel
theorem dX2_tell_95 : decode cX2_tell 95 = .ok (.aload_n 0, 1) := by decide +kernel
theorem dX2_tell_96 : decode cX2_tell 96 = .ok (.getfield 42, 3) := by decide +kernel
theorem dX2_tell_99 : decode cX2_tell 99 = .ok (.goto 5, 3) := by decide +kernel
theorem dX2_tell_102 : decode cX2_tell 102 = .ok (.bipush (-9), 2) := by decide +kernel
theorem dX2_tell_104 : decode cX2_tell 104 = .ok (.ireturn, 1) := by decide +kernel
theorem dX2_tell_105 : decode cX2_tell 105 = .ok (.aload_n 0, 1) := by decide +kernel
theorem dX2_tell_106 : decode cX2_tell 106 = .ok (.getfield 35, 3) := by decide +kernel
theorem dX2_tell_109 : decode cX2_tell 109 = .ok (.ifCond .eq 10, 3) := by decide +kernel
theorem dX2_tell_112 : decode cX2_tell 112 = .ok (.aload_n 0, 1) := by decide +kernel
theorem dX2_tell_113 : decode cX2_tell 113 = .ok (.getfield 45, 3) := by decide +kernel
theorem dX2_tell_116 : decode cX2_tell 116 = .ok (.goto 5, 3) := by decide +kernel
theorem dX2_tell_119 : decode cX2_tell 119 = .ok (.bipush (-9), 2) := by decide +kernel
theorem dX2_tell_121 : decode cX2_tell 121 = .ok (.ireturn, 1) := by decide +kernel
theorem dX2_tell_122 : decode cX2_tell 122 = .ok (.aload_n 0, 1) := by decide +kernel
theorem dX2_tell_123 : decode cX2_tell 123 = .ok (.getfield 48, 3) := by decide +kernel
theorem dX2_tell_126 : decode cX2_tell 126 = .ok (.ireturn, 1) := by decide +kernel
theorem dX2_tell_127 : decode cX2_tell 127 = .ok (.aload_n 0, 1) := by decide +kernel
theorem dX2_tell_128 : decode cX2_tell 128 = .ok (.getfield 51, 3) := by decide +kernel
theorem dX2_tell_131 : decode cX2_tell 131 = .ok (.ireturn, 1) := by decide +kernel
theorem dX2_tell_132 : decode cX2_tell 132 = .ok (.aload_n 0, 1) := by decide +kernel
theorem dX2_tell_133 : decode cX2_tell 133 = .ok (.getfield 54, 3) := by decide +kernel
theorem dX2_tell_136 : decode cX2_tell 136 = .ok (.ireturn, 1) := by decide +kernel
theorem dX2_tell_137 : decode cX2_tell 137 = .ok (.aload_n 0, 1) := by decide +kernel
theorem dX2_tell_138 : decode cX2_tell 138 = .ok (.getfield 57, 3) := by decide +kernel
theorem dX2_tell_141 : decode cX2_tell 141 = .ok (.ireturn, 1) := by decide +kernel
theorem dX2_tell_142 : decode cX2_tell 142 = .ok (.bipush (-2), 2) := by decide +kernel
theorem dX2_tell_144 : decode cX2_tell 144 = .ok (.ireturn, 1) := by decide +kernel
theorem dX2_countOf_0 : decode cX2_countOf 0 = .ok (.iload_n 1, 1) := by decide +kernel
theorem dX2_countOf_1 : decode cX2_countOf 1 = .ok (.lookupswitch 37 #[(0, 27), (1, 32)], 27) := by decide +kernel
theorem dX2_countOf_28 : decode cX2_countOf 28 = .ok (.aload_n 0, 1) := by decide +kernel
theorem dX2_countOf_29 : decode cX2_countOf 29 = .ok (.getfield 48, 3) := by decide +kernel
theorem dX2_countOf_32 : decode cX2_countOf 32 = .ok (.ireturn, 1) := by decide +kernel
theorem dX2_countOf_33 : decode cX2_countOf 33 = .ok (.aload_n 0, 1) := by decide +kernel
theorem dX2_countOf_34 : decode cX2_countOf 34 = .ok (.getfield 51, 3) := by decide +kernel
theorem dX2_countOf_37 : decode cX2_countOf 37 = .ok (.ireturn, 1) := by decide +kernel
theorem dX2_countOf_38 : decode cX2_countOf 38 = .ok (.aload_n 0, 1) := by decide +kernel
theorem dX2_countOf_39 : decode cX2_countOf 39 = .ok (.getfield 54, 3) := by decide +kernel
theorem dX2_countOf_42 : decode cX2_countOf 42 = .ok (.ireturn, 1) := by decide +kernel
theorem dX2_hearBits_0 : decode cX2_hearBits 0 = .ok (.iload 4, 2) := by decide +kernel
theorem dX2_hearBits_2 : decode cX2_hearBits 2 = .ok (.iconst 1, 1) := by decide +kernel
theorem dX2_hearBits_3 : decode cX2_hearBits 3 = .ok (.isub, 1) := by decide +kernel
theorem dX2_hearBits_4 : decode cX2_hearBits 4 = .ok (.istore 5, 2) := by decide +kernel
theorem dX2_hearBits_6 : decode cX2_hearBits 6 = .ok (.iload 5, 2) := by decide +kernel
theorem dX2_hearBits_8 : decode cX2_hearBits 8 = .ok (.ifCond .lt 89, 3) := by decide +kernel
theorem dX2_hearBits_11 : decode cX2_hearBits 11 = .ok (.aload_n 0, 1) := by decide +kernel
theorem dX2_hearBits_12 : decode cX2_hearBits 12 = .ok (.aload_n 0, 1) := by decide +kernel
theorem dX2_hearBits_13 : decode cX2_hearBits 13 = .ok (.getfield 25, 3) := by decide +kernel
theorem dX2_hearBits_16 : decode cX2_hearBits 16 = .ok (.iconst 1, 1) := by decide +kernel
theorem dX2_hearBits_17 : decode cX2_hearBits 17 = .ok (.ishl, 1) := by decide +kernel
theorem dX2_hearBits_18 : decode cX2_hearBits 18 = .ok (.lload_n 2, 1) := by decide +kernel
theorem dX2_hearBits_19 : decode cX2_hearBits 19 = .ok (.iload 5, 2) := by decide +kernel
theorem dX2_hearBits_21 : decode cX2_hearBits 21 = .ok (.lshr, 1) := by decide +kernel
theorem dX2_hearBits_22 : decode cX2_hearBits 22 = .ok (.l2i, 1) := by decide +kernel
theorem dX2_hearBits_23 : decode cX2_hearBits 23 = .ok (.iconst 1, 1) := by decide +kernel
theorem dX2_hearBits_24 : decode cX2_hearBits 24 = .ok (.iand, 1) := by decide +kernel
theorem dX2_hearBits_25 : decode cX2_hearBits 25 = .ok (.ior, 1) := by decide +kernel
theorem dX2_hearBits_26 : decode cX2_hearBits 26 = .ok (.sipush 16383, 3) := by decide +kernel
theorem dX2_hearBits_29 : decode cX2_hearBits 29 = .ok (.iand, 1) := by decide +kernel
theorem dX2_hearBits_30 : decode cX2_hearBits 30 = .ok (.putfield 25, 3) := by decide +kernel
theorem dX2_hearBits_33 : decode cX2_hearBits 33 = .ok (.aload_n 0, 1) := by decide +kernel
theorem dX2_hearBits_34 : decode cX2_hearBits 34 = .ok (.dup, 1) := by decide +kernel
theorem dX2_hearBits_35 : decode cX2_hearBits 35 = .ok (.getfield 29, 3) := by decide +kernel
theorem dX2_hearBits_38 : decode cX2_hearBits 38 = .ok (.iconst 1, 1) := by decide +kernel
theorem dX2_hearBits_39 : decode cX2_hearBits 39 = .ok (.iadd, 1) := by decide +kernel
theorem dX2_hearBits_40 : decode cX2_hearBits 40 = .ok (.putfield 29, 3) := by decide +kernel
theorem dX2_hearBits_43 : decode cX2_hearBits 43 = .ok (.aload_n 0, 1) := by decide +kernel
theorem dX2_hearBits_44 : decode cX2_hearBits 44 = .ok (.dup, 1) := by decide +kernel
theorem dX2_hearBits_45 : decode cX2_hearBits 45 = .ok (.getfield 32, 3) := by decide +kernel
theorem dX2_hearBits_48 : decode cX2_hearBits 48 = .ok (.iconst 1, 1) := by decide +kernel
theorem dX2_hearBits_49 : decode cX2_hearBits 49 = .ok (.iadd, 1) := by decide +kernel
theorem dX2_hearBits_50 : decode cX2_hearBits 50 = .ok (.putfield 32, 3) := by decide +kernel
theorem dX2_hearBits_53 : decode cX2_hearBits 53 = .ok (.aload_n 0, 1) := by decide +kernel
theorem dX2_hearBits_54 : decode cX2_hearBits 54 = .ok (.getfield 35, 3) := by decide +kernel
theorem dX2_hearBits_57 : decode cX2_hearBits 57 = .ok (.ifCond .eq 11, 3) := by decide +kernel
theorem dX2_hearBits_60 : decode cX2_hearBits 60 = .ok (.aload_n 0, 1) := by decide +kernel
theorem dX2_hearBits_61 : decode cX2_hearBits 61 = .ok (.aload_n 1, 1) := by decide +kernel
theorem dX2_hearBits_62 : decode cX2_hearBits 62 = .ok (.invokevirtual 87, 3) := by decide +kernel
theorem dX2_hearBits_65 : decode cX2_hearBits 65 = .ok (.goto 8, 3) := by decide +kernel
theorem dX2_hearBits_68 : decode cX2_hearBits 68 = .ok (.aload_n 0, 1) := by decide +kernel
theorem dX2_hearBits_69 : decode cX2_hearBits 69 = .ok (.aload_n 1, 1) := by decide +kernel
theorem dX2_hearBits_70 : decode cX2_hearBits 70 = .ok (.invokevirtual 91, 3) := by decide +kernel
theorem dX2_hearBits_73 : decode cX2_hearBits 73 = .ok (.istore 6, 2) := by decide +kernel
theorem dX2_hearBits_75 : decode cX2_hearBits 75 = .ok (.iload 6, 2) := by decide +kernel
theorem dX2_hearBits_77 : decode cX2_hearBits 77 = .ok (.ifCond .eq 14, 3) := by decide +kernel
theorem dX2_hearBits_80 : decode cX2_hearBits 80 = .ok (.aload_n 0, 1) := by decide +kernel
theorem dX2_hearBits_81 : decode cX2_hearBits 81 = .ok (.getfield 12, 3) := by decide +kernel
theorem dX2_hearBits_84 : decode cX2_hearBits 84 = .ok (.aload_n 0, 1) := by decide +kernel
theorem dX2_hearBits_85 : decode cX2_hearBits 85 = .ok (.getfield 18, 3) := by decide +kernel
theorem dX2_hearBits_88 : decode cX2_hearBits 88 = .ok (.invokevirtual 94, 3) := by decide +kernel
theorem dX2_hearBits_91 : decode cX2_hearBits 91 = .ok (.iinc 5 (-1), 3) := by decide +kernel
theorem dX2_hearBits_94 : decode cX2_hearBits 94 = .ok (.goto (-88), 3) := by decide +kernel
theorem dX2_hearBits_97 : decode cX2_hearBits 97 = .ok (.return_, 1) := by decide +kernel
theorem dX2_seekSync_0 : decode cX2_seekSync 0 = .ok (.aload_n 0, 1) := by decide +kernel
theorem dX2_seekSync_1 : decode cX2_seekSync 1 = .ok (.getfield 32, 3) := by decide +kernel
theorem dX2_seekSync_4 : decode cX2_seekSync 4 = .ok (.bipush 14, 2) := by decide +kernel
theorem dX2_seekSync_6 : decode cX2_seekSync 6 = .ok (.if_icmp .lt 14, 3) := by decide +kernel
theorem dX2_seekSync_9 : decode cX2_seekSync 9 = .ok (.aload_n 1, 1) := by decide +kernel
theorem dX2_seekSync_10 : decode cX2_seekSync 10 = .ok (.aload_n 0, 1) := by decide +kernel
theorem dX2_seekSync_11 : decode cX2_seekSync 11 = .ok (.getfield 25, 3) := by decide +kernel
theorem dX2_seekSync_14 : decode cX2_seekSync 14 = .ok (.invokevirtual 98, 3) := by decide +kernel
theorem dX2_seekSync_17 : decode cX2_seekSync 17 = .ok (.goto 5, 3) := by decide +kernel
theorem dX2_seekSync_20 : decode cX2_seekSync 20 = .ok (.bipush (-9), 2) := by decide +kernel
theorem dX2_seekSync_22 : decode cX2_seekSync 22 = .ok (.istore_n 2, 1) := by decide +kernel
theorem dX2_seekSync_23 : decode cX2_seekSync 23 = .ok (.iload_n 2, 1) := by decide +kernel
theorem dX2_seekSync_24 : decode cX2_seekSync 24 = .ok (.bipush (-9), 2) := by decide +kernel
theorem dX2_seekSync_26 : decode cX2_seekSync 26 = .ok (.if_icmp .ne 5, 3) := by decide +kernel
theorem dX2_seekSync_29 : decode cX2_seekSync 29 = .ok (.iconst 0, 1) := by decide +kernel
theorem dX2_seekSync_30 : decode cX2_seekSync 30 = .ok (.ireturn, 1) := by decide +kernel
theorem dX2_seekSync_31 : decode cX2_seekSync 31 = .ok (.aload_n 0, 1) := by decide +kernel
theorem dX2_seekSync_32 : decode cX2_seekSync 32 = .ok (.iload_n 2, 1) := by decide +kernel
theorem dX2_seekSync_33 : decode cX2_seekSync 33 = .ok (.invokevirtual 104, 3) := by decide +kernel
theorem dX2_seekSync_36 : decode cX2_seekSync 36 = .ok (.ifCond .ne 18, 3) := by decide +kernel
theorem dX2_seekSync_39 : decode cX2_seekSync 39 = .ok (.aload_n 0, 1) := by decide +kernel
theorem dX2_seekSync_40 : decode cX2_seekSync 40 = .ok (.aload_n 0, 1) := by decide +kernel
theorem dX2_seekSync_41 : decode cX2_seekSync 41 = .ok (.getfield 29, 3) := by decide +kernel
theorem dX2_seekSync_44 : decode cX2_seekSync 44 = .ok (.putfield 60, 3) := by decide +kernel
theorem dX2_seekSync_47 : decode cX2_seekSync 47 = .ok (.aload_n 0, 1) := by decide +kernel
theorem dX2_seekSync_48 : decode cX2_seekSync 48 = .ok (.iload_n 2, 1) := by decide +kernel
theorem dX2_seekSync_49 : decode cX2_seekSync 49 = .ok (.putfield 63, 3) := by decide +kernel
theorem dX2_seekSync_52 : decode cX2_seekSync 52 = .ok (.iconst 0, 1) := by decide +kernel
theorem dX2_seekSync_53 : decode cX2_seekSync 53 = .ok (.ireturn, 1) := by decide +kernel
theorem dX2_seekSync_54 : decode cX2_seekSync 54 = .ok (.aload_n 0, 1) := by decide +kernel
theorem dX2_seekSync_55 : decode cX2_seekSync 55 = .ok (.iload_n 2, 1) := by decide +kernel
theorem dX2_seekSync_56 : decode cX2_seekSync 56 = .ok (.invokevirtual 108, 3) := by decide +kernel
theorem dX2_seekSync_59 : decode cX2_seekSync 59 = .ok (.iload_n 2, 1) := by decide +kernel
theorem dX2_seekSync_60 : decode cX2_seekSync 60 = .ok (.iconst 3, 1) := by decide +kernel
theorem dX2_seekSync_61 : decode cX2_seekSync 61 = .ok (.if_icmp .ne 7, 3) := by decide +kernel
theorem dX2_seekSync_64 : decode cX2_seekSync 64 = .ok (.iconst 1, 1) := by decide +kernel
theorem dX2_seekSync_65 : decode cX2_seekSync 65 = .ok (.goto 4, 3) := by decide +kernel
theorem dX2_seekSync_68 : decode cX2_seekSync 68 = .ok (.iconst 0, 1) := by decide +kernel
theorem dX2_seekSync_69 : decode cX2_seekSync 69 = .ok (.ireturn, 1) := by decide +kernel
theorem dX2_fitsLastHit_0 : decode cX2_fitsLastHit 0 = .ok (.aload_n 0, 1) := by decide +kernel
theorem dX2_fitsLastHit_1 : decode cX2_fitsLastHit 1 = .ok (.getfield 29, 3) := by decide +kernel
theorem dX2_fitsLastHit_4 : decode cX2_fitsLastHit 4 = .ok (.aload_n 0, 1) := by decide +kernel
theorem dX2_fitsLastHit_5 : decode cX2_fitsLastHit 5 = .ok (.getfield 60, 3) := by decide +kernel
theorem dX2_fitsLastHit_8 : decode cX2_fitsLastHit 8 = .ok (.isub, 1) := by decide +kernel
theorem dX2_fitsLastHit_9 : decode cX2_fitsLastHit 9 = .ok (.istore_n 2, 1) := by decide +kernel
theorem dX2_fitsLastHit_10 : decode cX2_fitsLastHit 10 = .ok (.aload_n 0, 1) := by decide +kernel
theorem dX2_fitsLastHit_11 : decode cX2_fitsLastHit 11 = .ok (.getfield 63, 3) := by decide +kernel
theorem dX2_fitsLastHit_14 : decode cX2_fitsLastHit 14 = .ok (.bipush (-9), 2) := by decide +kernel
theorem dX2_fitsLastHit_16 : decode cX2_fitsLastHit 16 = .ok (.if_icmp .eq 10, 3) := by decide +kernel
theorem dX2_fitsLastHit_19 : decode cX2_fitsLastHit 19 = .ok (.iload_n 2, 1) := by decide +kernel
theorem dX2_fitsLastHit_20 : decode cX2_fitsLastHit 20 = .ok (.bipush 14, 2) := by decide +kernel
theorem dX2_fitsLastHit_22 : decode cX2_fitsLastHit 22 = .ok (.irem, 1) := by decide +kernel
theorem dX2_fitsLastHit_23 : decode cX2_fitsLastHit 23 = .ok (.ifCond .eq 5, 3) := by decide +kernel
theorem dX2_fitsLastHit_26 : decode cX2_fitsLastHit 26 = .ok (.iconst 0, 1) := by decide +kernel
theorem dX2_fitsLastHit_27 : decode cX2_fitsLastHit 27 = .ok (.ireturn, 1) := by decide +kernel
theorem dX2_fitsLastHit_28 : decode cX2_fitsLastHit 28 = .ok (.iload_n 2, 1) := by decide +kernel
theorem dX2_fitsLastHit_29 : decode cX2_fitsLastHit 29 = .ok (.bipush 14, 2) := by decide +kernel
theorem dX2_fitsLastHit_31 : decode cX2_fitsLastHit 31 = .ok (.idiv, 1) := by decide +kernel
theorem dX2_fitsLastHit_32 : decode cX2_fitsLastHit 32 = .ok (.istore_n 3, 1) := by decide +kernel
theorem dX2_fitsLastHit_33 : decode cX2_fitsLastHit 33 = .ok (.iload_n 3, 1) := by decide +kernel
theorem dX2_fitsLastHit_34 : decode cX2_fitsLastHit 34 = .ok (.iconst 1, 1) := by decide +kernel
theorem dX2_fitsLastHit_35 : decode cX2_fitsLastHit 35 = .ok (.if_icmp .lt 24, 3) := by decide +kernel
theorem dX2_fitsLastHit_38 : decode cX2_fitsLastHit 38 = .ok (.iload_n 3, 1) := by decide +kernel
theorem dX2_fitsLastHit_39 : decode cX2_fitsLastHit 39 = .ok (.iconst 4, 1) := by decide +kernel
theorem dX2_fitsLastHit_40 : decode cX2_fitsLastHit 40 = .ok (.if_icmp .gt 19, 3) := by decide +kernel
theorem dX2_fitsLastHit_43 : decode cX2_fitsLastHit 43 = .ok (.aload_n 0, 1) := by decide +kernel
theorem dX2_fitsLastHit_44 : decode cX2_fitsLastHit 44 = .ok (.getfield 63, 3) := by decide +kernel
theorem dX2_fitsLastHit_47 : decode cX2_fitsLastHit 47 = .ok (.iload_n 3, 1) := by decide +kernel
theorem dX2_fitsLastHit_48 : decode cX2_fitsLastHit 48 = .ok (.iadd, 1) := by decide +kernel
theorem dX2_fitsLastHit_49 : decode cX2_fitsLastHit 49 = .ok (.iconst 3, 1) := by decide +kernel
theorem dX2_fitsLastHit_50 : decode cX2_fitsLastHit 50 = .ok (.iand, 1) := by decide +kernel
theorem dX2_fitsLastHit_51 : decode cX2_fitsLastHit 51 = .ok (.iload_n 1, 1) := by decide +kernel
theorem dX2_fitsLastHit_52 : decode cX2_fitsLastHit 52 = .ok (.if_icmp .ne 7, 3) := by decide +kernel
theorem dX2_fitsLastHit_55 : decode cX2_fitsLastHit 55 = .ok (.iconst 1, 1) := by decide +kernel
theorem dX2_fitsLastHit_56 : decode cX2_fitsLastHit 56 = .ok (.goto 4, 3) := by decide +kernel
theorem dX2_fitsLastHit_59 : decode cX2_fitsLastHit 59 = .ok (.iconst 0, 1) := by decide +kernel
theorem dX2_fitsLastHit_60 : decode cX2_fitsLastHit 60 = .ok (.ireturn, 1) := by decide +kernel
theorem dX2_findSync_0 : decode cX2_findSync 0 = .ok (.aload_n 0, 1) := by decide +kernel
theorem dX2_findSync_1 : decode cX2_findSync 1 = .ok (.iconst 1, 1) := by decide +kernel
theorem dX2_findSync_2 : decode cX2_findSync 2 = .ok (.putfield 35, 3) := by decide +kernel
theorem dX2_findSync_5 : decode cX2_findSync 5 = .ok (.aload_n 0, 1) := by decide +kernel
theorem dX2_findSync_6 : decode cX2_findSync 6 = .ok (.iload_n 1, 1) := by decide +kernel
theorem dX2_findSync_7 : decode cX2_findSync 7 = .ok (.invokestatic 112, 3) := by decide +kernel
theorem dX2_findSync_10 : decode cX2_findSync 10 = .ok (.putfield 39, 3) := by decide +kernel
theorem dX2_findSync_13 : decode cX2_findSync 13 = .ok (.aload_n 0, 1) := by decide +kernel
theorem dX2_findSync_14 : decode cX2_findSync 14 = .ok (.iconst 0, 1) := by decide +kernel
theorem dX2_findSync_15 : decode cX2_findSync 15 = .ok (.putfield 42, 3) := by decide +kernel
theorem dX2_findSync_18 : decode cX2_findSync 18 = .ok (.aload_n 0, 1) := by decide +kernel
theorem dX2_findSync_19 : decode cX2_findSync 19 = .ok (.iconst 0, 1) := by decide +kernel
theorem dX2_findSync_20 : decode cX2_findSync 20 = .ok (.putfield 45, 3) := by decide +kernel
theorem dX2_findSync_23 : decode cX2_findSync 23 = .ok (.aload_n 0, 1) := by decide +kernel
theorem dX2_findSync_24 : decode cX2_findSync 24 = .ok (.dup, 1) := by decide +kernel
theorem dX2_findSync_25 : decode cX2_findSync 25 = .ok (.getfield 48, 3) := by decide +kernel
theorem dX2_findSync_28 : decode cX2_findSync 28 = .ok (.iconst 1, 1) := by decide +kernel
theorem dX2_findSync_29 : decode cX2_findSync 29 = .ok (.iadd, 1) := by decide +kernel
theorem dX2_findSync_30 : decode cX2_findSync 30 = .ok (.putfield 48, 3) := by decide +kernel
theorem dX2_findSync_33 : decode cX2_findSync 33 = .ok (.aload_n 0, 1) := by decide +kernel
theorem dX2_findSync_34 : decode cX2_findSync 34 = .ok (.getfield 18, 3) := by decide +kernel
theorem dX2_findSync_37 : decode cX2_findSync 37 = .ok (.bipush (-9), 2) := by decide +kernel
theorem dX2_findSync_39 : decode cX2_findSync 39 = .ok (.invokestatic 66, 3) := by decide +kernel
theorem dX2_findSync_42 : decode cX2_findSync 42 = .ok (.aload_n 0, 1) := by decide +kernel
theorem dX2_findSync_43 : decode cX2_findSync 43 = .ok (.getfield 18, 3) := by decide +kernel
theorem dX2_findSync_46 : decode cX2_findSync 46 = .ok (.iload_n 1, 1) := by decide +kernel
theorem dX2_findSync_47 : decode cX2_findSync 47 = .ok (.aload_n 0, 1) := by decide +kernel
theorem dX2_findSync_48 : decode cX2_findSync 48 = .ok (.getfield 25, 3) := by decide +kernel
theorem dX2_findSync_51 : decode cX2_findSync 51 = .ok (.bipush 6, 2) := by decide +kernel
theorem dX2_findSync_53 : decode cX2_findSync 53 = .ok (.ishr, 1) := by decide +kernel
theorem dX2_findSync_54 : decode cX2_findSync 54 = .ok (.iastore, 1) := by decide +kernel
theorem dX2_findSync_55 : decode cX2_findSync 55 = .ok (.return_, 1) := by decide +kernel
theorem dX2_goOn_0 : decode cX2_goOn 0 = .ok (.aload_n 0, 1) := by decide +kernel
theorem dX2_goOn_1 : decode cX2_goOn 1 = .ok (.dup, 1) := by decide +kernel
theorem dX2_goOn_2 : decode cX2_goOn 2 = .ok (.getfield 42, 3) := by decide +kernel
theorem dX2_goOn_5 : decode cX2_goOn 5 = .ok (.iconst 1, 1) := by decide +kernel
theorem dX2_goOn_6 : decode cX2_goOn 6 = .ok (.iadd, 1) := by decide +kernel
theorem dX2_goOn_7 : decode cX2_goOn 7 = .ok (.putfield 42, 3) := by decide +kernel
theorem dX2_goOn_10 : decode cX2_goOn 10 = .ok (.aload_n 0, 1) := by decide +kernel
theorem dX2_goOn_11 : decode cX2_goOn 11 = .ok (.getfield 42, 3) := by decide +kernel
theorem dX2_goOn_14 : decode cX2_goOn 14 = .ok (.bipush 14, 2) := by decide +kernel
theorem dX2_goOn_16 : decode cX2_goOn 16 = .ok (.if_icmp .ge 5, 3) := by decide +kernel
theorem dX2_goOn_19 : decode cX2_goOn 19 = .ok (.iconst 0, 1) := by decide +kernel
theorem dX2_goOn_20 : decode cX2_goOn 20 = .ok (.ireturn, 1) := by decide +kernel
theorem dX2_goOn_21 : decode cX2_goOn 21 = .ok (.aload_n 0, 1) := by decide +kernel
theorem dX2_goOn_22 : decode cX2_goOn 22 = .ok (.iconst 0, 1) := by decide +kernel
theorem dX2_goOn_23 : decode cX2_goOn 23 = .ok (.putfield 42, 3) := by decide +kernel
theorem dX2_goOn_26 : decode cX2_goOn 26 = .ok (.aload_n 0, 1) := by decide +kernel
theorem dX2_goOn_27 : decode cX2_goOn 27 = .ok (.aload_n 1, 1) := by decide +kernel
theorem dX2_goOn_28 : decode cX2_goOn 28 = .ok (.invokevirtual 115, 3) := by decide +kernel
theorem dX2_goOn_31 : decode cX2_goOn 31 = .ok (.aload_n 0, 1) := by decide +kernel
theorem dX2_goOn_32 : decode cX2_goOn 32 = .ok (.getfield 45, 3) := by decide +kernel
theorem dX2_goOn_35 : decode cX2_goOn 35 = .ok (.aload_n 1, 1) := by decide +kernel
theorem dX2_goOn_36 : decode cX2_goOn 36 = .ok (.getfield 119, 3) := by decide +kernel
theorem dX2_goOn_39 : decode cX2_goOn 39 = .ok (.if_icmp .lt 9, 3) := by decide +kernel
theorem dX2_goOn_42 : decode cX2_goOn 42 = .ok (.aload_n 0, 1) := by decide +kernel
theorem dX2_goOn_43 : decode cX2_goOn 43 = .ok (.invokevirtual 122, 3) := by decide +kernel
theorem dX2_goOn_46 : decode cX2_goOn 46 = .ok (.iconst 0, 1) := by decide +kernel
theorem dX2_goOn_47 : decode cX2_goOn 47 = .ok (.ireturn, 1) := by decide +kernel
theorem dX2_goOn_48 : decode cX2_goOn 48 = .ok (.aload_n 0, 1) := by decide +kernel
theorem dX2_goOn_49 : decode cX2_goOn 49 = .ok (.aload_n 0, 1) := by decide +kernel
theorem dX2_goOn_50 : decode cX2_goOn 50 = .ok (.getfield 39, 3) := by decide +kernel
theorem dX2_goOn_53 : decode cX2_goOn 53 = .ok (.invokestatic 112, 3) := by decide +kernel
theorem dX2_goOn_56 : decode cX2_goOn 56 = .ok (.putfield 39, 3) := by decide +kernel
theorem dX2_goOn_59 : decode cX2_goOn 59 = .ok (.aload_n 0, 1) := by decide +kernel
theorem dX2_goOn_60 : decode cX2_goOn 60 = .ok (.getfield 39, 3) := by decide +kernel
theorem dX2_goOn_63 : decode cX2_goOn 63 = .ok (.ifCond .ne 7, 3) := by decide +kernel
theorem dX2_goOn_66 : decode cX2_goOn 66 = .ok (.iconst 1, 1) := by decide +kernel
theorem dX2_goOn_67 : decode cX2_goOn 67 = .ok (.goto 4, 3) := by decide +kernel
theorem dX2_goOn_70 : decode cX2_goOn 70 = .ok (.iconst 0, 1) := by decide +kernel
theorem dX2_goOn_71 : decode cX2_goOn 71 = .ok (.ireturn, 1) := by decide +kernel
theorem dX2_takeBlock_0 : decode cX2_takeBlock 0 = .ok (.aload_n 0, 1) := by decide +kernel
theorem dX2_takeBlock_1 : decode cX2_takeBlock 1 = .ok (.getfield 39, 3) := by decide +kernel
theorem dX2_takeBlock_4 : decode cX2_takeBlock 4 = .ok (.ifCond .ne 12, 3) := by decide +kernel
theorem dX2_takeBlock_7 : decode cX2_takeBlock 7 = .ok (.aload_n 0, 1) := by decide +kernel
theorem dX2_takeBlock_8 : decode cX2_takeBlock 8 = .ok (.getfield 18, 3) := by decide +kernel
theorem dX2_takeBlock_11 : decode cX2_takeBlock 11 = .ok (.bipush (-9), 2) := by decide +kernel
theorem dX2_takeBlock_13 : decode cX2_takeBlock 13 = .ok (.invokestatic 66, 3) := by decide +kernel
theorem dX2_takeBlock_16 : decode cX2_takeBlock 16 = .ok (.aload_n 1, 1) := by decide +kernel
theorem dX2_takeBlock_17 : decode cX2_takeBlock 17 = .ok (.aload_n 0, 1) := by decide +kernel
theorem dX2_takeBlock_18 : decode cX2_takeBlock 18 = .ok (.getfield 39, 3) := by decide +kernel
theorem dX2_takeBlock_21 : decode cX2_takeBlock 21 = .ok (.aload_n 0, 1) := by decide +kernel
theorem dX2_takeBlock_22 : decode cX2_takeBlock 22 = .ok (.getfield 25, 3) := by decide +kernel
theorem dX2_takeBlock_25 : decode cX2_takeBlock 25 = .ok (.invokevirtual 125, 3) := by decide +kernel
theorem dX2_takeBlock_28 : decode cX2_takeBlock 28 = .ok (.istore_n 2, 1) := by decide +kernel
theorem dX2_takeBlock_29 : decode cX2_takeBlock 29 = .ok (.aload_n 0, 1) := by decide +kernel
theorem dX2_takeBlock_30 : decode cX2_takeBlock 30 = .ok (.getfield 18, 3) := by decide +kernel
theorem dX2_takeBlock_33 : decode cX2_takeBlock 33 = .ok (.aload_n 0, 1) := by decide +kernel
theorem dX2_takeBlock_34 : decode cX2_takeBlock 34 = .ok (.getfield 39, 3) := by decide +kernel
theorem dX2_takeBlock_37 : decode cX2_takeBlock 37 = .ok (.iload_n 2, 1) := by decide +kernel
theorem dX2_takeBlock_38 : decode cX2_takeBlock 38 = .ok (.bipush (-9), 2) := by decide +kernel
theorem dX2_takeBlock_40 : decode cX2_takeBlock 40 = .ok (.if_icmp .ne 8, 3) := by decide +kernel
theorem dX2_takeBlock_43 : decode cX2_takeBlock 43 = .ok (.bipush (-9), 2) := by decide +kernel
theorem dX2_takeBlock_45 : decode cX2_takeBlock 45 = .ok (.goto 7, 3) := by decide +kernel
theorem dX2_takeBlock_48 : decode cX2_takeBlock 48 = .ok (.iload_n 2, 1) := by decide +kernel
theorem dX2_takeBlock_49 : decode cX2_takeBlock 49 = .ok (.bipush 6, 2) := by decide +kernel
theorem dX2_takeBlock_51 : decode cX2_takeBlock 51 = .ok (.ishr, 1) := by decide +kernel
theorem dX2_takeBlock_52 : decode cX2_takeBlock 52 = .ok (.iastore, 1) := by decide +kernel
theorem dX2_takeBlock_53 : decode cX2_takeBlock 53 = .ok (.aload_n 0, 1) := by decide +kernel
theorem dX2_takeBlock_54 : decode cX2_takeBlock 54 = .ok (.iload_n 2, 1) := by decide +kernel
theorem dX2_takeBlock_55 : decode cX2_takeBlock 55 = .ok (.invokevirtual 129, 3) := by decide +kernel
theorem dX2_takeBlock_58 : decode cX2_takeBlock 58 = .ok (.return_, 1) := by decide +kernel
theorem dX2_countBlock_0 : decode cX2_countBlock 0 = .ok (.iload_n 1, 1) := by decide +kernel
theorem dX2_countBlock_1 : decode cX2_countBlock 1 = .ok (.bipush (-9), 2) := by decide +kernel
theorem dX2_countBlock_3 : decode cX2_countBlock 3 = .ok (.if_icmp .ne 26, 3) := by decide +kernel
theorem dX2_countBlock_6 : decode cX2_countBlock 6 = .ok (.aload_n 0, 1) := by decide +kernel
theorem dX2_countBlock_7 : decode cX2_countBlock 7 = .ok (.dup, 1) := by decide +kernel
theorem dX2_countBlock_8 : decode cX2_countBlock 8 = .ok (.getfield 54, 3) := by decide +kernel
theorem dX2_countBlock_11 : decode cX2_countBlock 11 = .ok (.iconst 1, 1) := by decide +kernel
theorem dX2_countBlock_12 : decode cX2_countBlock 12 = .ok (.iadd, 1) := by decide +kernel
theorem dX2_countBlock_13 : decode cX2_countBlock 13 = .ok (.putfield 54, 3) := by decide +kernel
theorem dX2_countBlock_16 : decode cX2_countBlock 16 = .ok (.aload_n 0, 1) := by decide +kernel
theorem dX2_countBlock_17 : decode cX2_countBlock 17 = .ok (.dup, 1) := by decide +kernel
theorem dX2_countBlock_18 : decode cX2_countBlock 18 = .ok (.getfield 45, 3) := by decide +kernel
theorem dX2_countBlock_21 : decode cX2_countBlock 21 = .ok (.iconst 1, 1) := by decide +kernel
theorem dX2_countBlock_22 : decode cX2_countBlock 22 = .ok (.iadd, 1) := by decide +kernel
theorem dX2_countBlock_23 : decode cX2_countBlock 23 = .ok (.putfield 45, 3) := by decide +kernel
theorem dX2_countBlock_26 : decode cX2_countBlock 26 = .ok (.goto 39, 3) := by decide +kernel
theorem dX2_countBlock_29 : decode cX2_countBlock 29 = .ok (.iload_n 1, 1) := by decide +kernel
theorem dX2_countBlock_30 : decode cX2_countBlock 30 = .ok (.aload_n 0, 1) := by decide +kernel
theorem dX2_countBlock_31 : decode cX2_countBlock 31 = .ok (.getfield 25, 3) := by decide +kernel
theorem dX2_countBlock_34 : decode cX2_countBlock 34 = .ok (.if_icmp .ne 21, 3) := by decide +kernel
theorem dX2_countBlock_37 : decode cX2_countBlock 37 = .ok (.aload_n 0, 1) := by decide +kernel
theorem dX2_countBlock_38 : decode cX2_countBlock 38 = .ok (.dup, 1) := by decide +kernel
theorem dX2_countBlock_39 : decode cX2_countBlock 39 = .ok (.getfield 48, 3) := by decide +kernel
theorem dX2_countBlock_42 : decode cX2_countBlock 42 = .ok (.iconst 1, 1) := by decide +kernel
theorem dX2_countBlock_43 : decode cX2_countBlock 43 = .ok (.iadd, 1) := by decide +kernel
theorem dX2_countBlock_44 : decode cX2_countBlock 44 = .ok (.putfield 48, 3) := by decide +kernel
theorem dX2_countBlock_47 : decode cX2_countBlock 47 = .ok (.aload_n 0, 1) := by decide +kernel
theorem dX2_countBlock_48 : decode cX2_countBlock 48 = .ok (.iconst 0, 1) := by decide +kernel
theorem dX2_countBlock_49 : decode cX2_countBlock 49 = .ok (.putfield 45, 3) := by decide +kernel
theorem dX2_countBlock_52 : decode cX2_countBlock 52 = .ok (.goto 13, 3) := by decide +kernel
theorem dX2_countBlock_55 : decode cX2_countBlock 55 = .ok (.aload_n 0, 1) := by decide +kernel
theorem dX2_countBlock_56 : decode cX2_countBlock 56 = .ok (.dup, 1) := by decide +kernel
theorem dX2_countBlock_57 : decode cX2_countBlock 57 = .ok (.getfield 51, 3) := by decide +kernel
theorem dX2_countBlock_60 : decode cX2_countBlock 60 = .ok (.iconst 1, 1) := by decide +kernel
theorem dX2_countBlock_61 : decode cX2_countBlock 61 = .ok (.iadd, 1) := by decide +kernel
theorem dX2_countBlock_62 : decode cX2_countBlock 62 = .ok (.putfield 51, 3) := by decide +kernel
theorem dX2_countBlock_65 : decode cX2_countBlock 65 = .ok (.return_, 1) := by decide +kernel
theorem dX2_lose_0 : decode cX2_lose 0 = .ok (.aload_n 0, 1) := by decide +kernel
theorem dX2_lose_1 : decode cX2_lose 1 = .ok (.iconst 0, 1) := by decide +kernel
theorem dX2_lose_2 : decode cX2_lose 2 = .ok (.putfield 35, 3) := by decide +kernel
theorem dX2_lose_5 : decode cX2_lose 5 = .ok (.aload_n 0, 1) := by decide +kernel
theorem dX2_lose_6 : decode cX2_lose 6 = .ok (.dup, 1) := by decide +kernel
theorem dX2_lose_7 : decode cX2_lose 7 = .ok (.getfield 57, 3) := by decide +kernel
theorem dX2_lose_10 : decode cX2_lose 10 = .ok (.iconst 1, 1) := by decide +kernel
theorem dX2_lose_11 : decode cX2_lose 11 = .ok (.iadd, 1) := by decide +kernel
theorem dX2_lose_12 : decode cX2_lose 12 = .ok (.putfield 57, 3) := by decide +kernel
theorem dX2_lose_15 : decode cX2_lose 15 = .ok (.aload_n 0, 1) := by decide +kernel
theorem dX2_lose_16 : decode cX2_lose 16 = .ok (.iconst 0, 1) := by decide +kernel
theorem dX2_lose_17 : decode cX2_lose 17 = .ok (.putfield 45, 3) := by decide +kernel
theorem dX2_lose_20 : decode cX2_lose 20 = .ok (.aload_n 0, 1) := by decide +kernel
theorem dX2_lose_21 : decode cX2_lose 21 = .ok (.bipush (-9), 2) := by decide +kernel
theorem dX2_lose_23 : decode cX2_lose 23 = .ok (.putfield 63, 3) := by decide +kernel
theorem dX2_lose_26 : decode cX2_lose 26 = .ok (.aload_n 0, 1) := by decide +kernel
theorem dX2_lose_27 : decode cX2_lose 27 = .ok (.iconst 0, 1) := by decide +kernel
theorem dX2_lose_28 : decode cX2_lose 28 = .ok (.putfield 32, 3) := by decide +kernel
theorem dX2_lose_31 : decode cX2_lose 31 = .ok (.aload_n 0, 1) := by decide +kernel
theorem dX2_lose_32 : decode cX2_lose 32 = .ok (.getfield 18, 3) := by decide +kernel
theorem dX2_lose_35 : decode cX2_lose 35 = .ok (.bipush (-9), 2) := by decide +kernel
theorem dX2_lose_37 : decode cX2_lose 37 = .ok (.invokestatic 66, 3) := by decide +kernel
theorem dX2_lose_40 : decode cX2_lose 40 = .ok (.return_, 1) := by decide +kernel
theorem dX2_startOver_0 : decode cX2_startOver 0 = .ok (.aload_n 0, 1) := by decide +kernel
theorem dX2_startOver_1 : decode cX2_startOver 1 = .ok (.getfield 35, 3) := by decide +kernel
theorem dX2_startOver_4 : decode cX2_startOver 4 = .ok (.ifCond .eq 7, 3) := by decide +kernel
theorem dX2_startOver_7 : decode cX2_startOver 7 = .ok (.aload_n 0, 1) := by decide +kernel
theorem dX2_startOver_8 : decode cX2_startOver 8 = .ok (.invokevirtual 122, 3) := by decide +kernel
theorem dX2_startOver_11 : decode cX2_startOver 11 = .ok (.aload_n 0, 1) := by decide +kernel
theorem dX2_startOver_12 : decode cX2_startOver 12 = .ok (.bipush (-9), 2) := by decide +kernel
theorem dX2_startOver_14 : decode cX2_startOver 14 = .ok (.putfield 63, 3) := by decide +kernel
theorem dX2_startOver_17 : decode cX2_startOver 17 = .ok (.aload_n 0, 1) := by decide +kernel
theorem dX2_startOver_18 : decode cX2_startOver 18 = .ok (.iconst 0, 1) := by decide +kernel
theorem dX2_startOver_19 : decode cX2_startOver 19 = .ok (.putfield 32, 3) := by decide +kernel
theorem dX2_startOver_22 : decode cX2_startOver 22 = .ok (.return_, 1) := by decide +kernel
end
section
theorem dX3_init_0 : decode cX3_init 0 = .ok (.aload_n 0, 1) := by decide +kernel
theorem dX3_init_1 : decode cX3_init 1 = .ok (.invokespecial 3, 3) := by decide +kernel
theorem dX3_init_4 : decode cX3_init 4 = .ok (.aload_n 0, 1) := by decide +kernel
theorem dX3_init_5 : decode cX3_init 5 = .ok (.iconst 4, 1) := by decide +kernel
theorem dX3_init_6 : decode cX3_init 6 = .ok (.newarray .int, 2) := by decide +kernel
theorem dX3_init_8 : decode cX3_init 8 = .ok (.putfield 11, 3) := by decide +kernel
theorem dX3_init_11 : decode cX3_init 11 = .ok (.aload_n 0, 1) := by decide +kernel
theorem dX3_init_12 : decode cX3_init 12 = .ok (.iconst 4, 1) := by decide +kernel
theorem dX3_init_13 : decode cX3_init 13 = .ok (.newarray .int, 2) := by decide +kernel
theorem dX3_init_15 : decode cX3_init 15 = .ok (.putfield 15, 3) := by decide +kernel
theorem dX3_init_18 : decode cX3_init 18 = .ok (.aload_n 0, 1) := by decide +kernel
theorem dX3_init_19 : decode cX3_init 19 = .ok (.bipush 8, 2) := by decide +kernel
theorem dX3_init_21 : decode cX3_init 21 = .ok (.newarray .int, 2) := by decide +kernel
theorem dX3_init_23 : decode cX3_init 23 = .ok (.putfield 18, 3) := by decide +kernel
theorem dX3_init_26 : decode cX3_init 26 = .ok (.aload_n 0, 1) := by decide +kernel
theorem dX3_init_27 : decode cX3_init 27 = .ok (.bipush 8, 2) := by decide +kernel
theorem dX3_init_29 : decode cX3_init 29 = .ok (.newarray .int, 2) := by decide +kernel
theorem dX3_init_31 : decode cX3_init 31 = .ok (.putfield 21, 3) := by decide +kernel
theorem dX3_init_34 : decode cX3_init 34 = .ok (.return_, 1) := by decide +kernel
theorem dX3_clear_0 : decode cX3_clear 0 = .ok (.aload_n 0, 1) := by decide +kernel
theorem dX3_clear_1 : decode cX3_clear 1 = .ok (.getfield 18, 3) := by decide +kernel
theorem dX3_clear_4 : decode cX3_clear 4 = .ok (.iconst 0, 1) := by decide +kernel
theorem dX3_clear_5 : decode cX3_clear 5 = .ok (.invokestatic 24, 3) := by decide +kernel
theorem dX3_clear_8 : decode cX3_clear 8 = .ok (.aload_n 0, 1) := by decide +kernel
theorem dX3_clear_9 : decode cX3_clear 9 = .ok (.getfield 21, 3) := by decide +kernel
theorem dX3_clear_12 : decode cX3_clear 12 = .ok (.iconst 0, 1) := by decide +kernel
theorem dX3_clear_13 : decode cX3_clear 13 = .ok (.invokestatic 24, 3) := by decide +kernel
theorem dX3_clear_16 : decode cX3_clear 16 = .ok (.aload_n 0, 1) := by decide +kernel
theorem dX3_clear_17 : decode cX3_clear 17 = .ok (.iconst 0, 1) := by decide +kernel
theorem dX3_clear_18 : decode cX3_clear 18 = .ok (.putfield 30, 3) := by decide +kernel
theorem dX3_clear_21 : decode cX3_clear 21 = .ok (.aload_n 0, 1) := by decide +kernel
theorem dX3_clear_22 : decode cX3_clear 22 = .ok (.bipush (-9), 2) := by decide +kernel
theorem dX3_clear_24 : decode cX3_clear 24 = .ok (.putfield 34, 3) := by decide +kernel
theorem dX3_clear_27 : decode cX3_clear 27 = .ok (.aload_n 0, 1) := by decide +kernel
theorem dX3_clear_28 : decode cX3_clear 28 = .ok (.bipush (-9), 2) := by decide +kernel
theorem dX3_clear_30 : decode cX3_clear 30 = .ok (.putfield 37, 3) := by decide +kernel
theorem dX3_clear_33 : decode cX3_clear 33 = .ok (.aload_n 0, 1) := by decide +kernel
theorem dX3_clear_34 : decode cX3_clear 34 = .ok (.bipush (-9), 2) := by decide +kernel
theorem dX3_clear_36 : decode cX3_clear 36 = .ok (.putfield 40, 3) := by decide +kernel
theorem dX3_clear_39 : decode cX3_clear 39 = .ok (.aload_n 0, 1) := by decide +kernel
theorem dX3_clear_40 : decode cX3_clear 40 = .ok (.iconst 0, 1) := by decide +kernel
theorem dX3_clear_41 : decode cX3_clear 41 = .ok (.putfield 43, 3) := by decide +kernel
theorem dX3_clear_44 : decode cX3_clear 44 = .ok (.aload_n 0, 1) := by decide +kernel
theorem dX3_clear_45 : decode cX3_clear 45 = .ok (.invokevirtual 46, 3) := by decide +kernel
theorem dX3_clear_48 : decode cX3_clear 48 = .ok (.return_, 1) := by decide +kernel
theorem dX3_clearNames_0 : decode cX3_clearNames 0 = .ok (.aload_n 0, 1) := by decide +kernel
theorem dX3_clearNames_1 : decode cX3_clearNames 1 = .ok (.getfield 11, 3) := by decide +kernel
theorem dX3_clearNames_4 : decode cX3_clearNames 4 = .ok (.bipush (-9), 2) := by decide +kernel
theorem dX3_clearNames_6 : decode cX3_clearNames 6 = .ok (.invokestatic 24, 3) := by decide +kernel
theorem dX3_clearNames_9 : decode cX3_clearNames 9 = .ok (.aload_n 0, 1) := by decide +kernel
theorem dX3_clearNames_10 : decode cX3_clearNames 10 = .ok (.getfield 15, 3) := by decide +kernel
theorem dX3_clearNames_13 : decode cX3_clearNames 13 = .ok (.bipush (-9), 2) := by decide +kernel
theorem dX3_clearNames_15 : decode cX3_clearNames 15 = .ok (.invokestatic 24, 3) := by decide +kernel
theorem dX3_clearNames_18 : decode cX3_clearNames 18 = .ok (.return_, 1) := by decide +kernel
theorem dX3_copyFrom_0 : decode cX3_copyFrom 0 = .ok (.aload_n 1, 1) := by decide +kernel
theorem dX3_copyFrom_1 : decode cX3_copyFrom 1 = .ok (.getfield 11, 3) := by decide +kernel
theorem dX3_copyFrom_4 : decode cX3_copyFrom 4 = .ok (.iconst 0, 1) := by decide +kernel
theorem dX3_copyFrom_5 : decode cX3_copyFrom 5 = .ok (.aload_n 0, 1) := by decide +kernel
theorem dX3_copyFrom_6 : decode cX3_copyFrom 6 = .ok (.getfield 11, 3) := by decide +kernel
theorem dX3_copyFrom_9 : decode cX3_copyFrom 9 = .ok (.iconst 0, 1) := by decide +kernel
theorem dX3_copyFrom_10 : decode cX3_copyFrom 10 = .ok (.iconst 4, 1) := by decide +kernel
theorem dX3_copyFrom_11 : decode cX3_copyFrom 11 = .ok (.invokestatic 49, 3) := by decide +kernel
theorem dX3_copyFrom_14 : decode cX3_copyFrom 14 = .ok (.aload_n 1, 1) := by decide +kernel
theorem dX3_copyFrom_15 : decode cX3_copyFrom 15 = .ok (.getfield 15, 3) := by decide +kernel
theorem dX3_copyFrom_18 : decode cX3_copyFrom 18 = .ok (.iconst 0, 1) := by decide +kernel
theorem dX3_copyFrom_19 : decode cX3_copyFrom 19 = .ok (.aload_n 0, 1) := by decide +kernel
theorem dX3_copyFrom_20 : decode cX3_copyFrom 20 = .ok (.getfield 15, 3) := by decide +kernel
theorem dX3_copyFrom_23 : decode cX3_copyFrom 23 = .ok (.iconst 0, 1) := by decide +kernel
theorem dX3_copyFrom_24 : decode cX3_copyFrom 24 = .ok (.iconst 4, 1) := by decide +kernel
theorem dX3_copyFrom_25 : decode cX3_copyFrom 25 = .ok (.invokestatic 49, 3) := by decide +kernel
theorem dX3_copyFrom_28 : decode cX3_copyFrom 28 = .ok (.aload_n 1, 1) := by decide +kernel
theorem dX3_copyFrom_29 : decode cX3_copyFrom 29 = .ok (.getfield 18, 3) := by decide +kernel
theorem dX3_copyFrom_32 : decode cX3_copyFrom 32 = .ok (.iconst 0, 1) := by decide +kernel
theorem dX3_copyFrom_33 : decode cX3_copyFrom 33 = .ok (.aload_n 0, 1) := by decide +kernel
theorem dX3_copyFrom_34 : decode cX3_copyFrom 34 = .ok (.getfield 18, 3) := by decide +kernel
theorem dX3_copyFrom_37 : decode cX3_copyFrom 37 = .ok (.iconst 0, 1) := by decide +kernel
theorem dX3_copyFrom_38 : decode cX3_copyFrom 38 = .ok (.bipush 8, 2) := by decide +kernel
theorem dX3_copyFrom_40 : decode cX3_copyFrom 40 = .ok (.invokestatic 49, 3) := by decide +kernel
theorem dX3_copyFrom_43 : decode cX3_copyFrom 43 = .ok (.aload_n 1, 1) := by decide +kernel
theorem dX3_copyFrom_44 : decode cX3_copyFrom 44 = .ok (.getfield 21, 3) := by decide +kernel
theorem dX3_copyFrom_47 : decode cX3_copyFrom 47 = .ok (.iconst 0, 1) := by decide +kernel
theorem dX3_copyFrom_48 : decode cX3_copyFrom 48 = .ok (.aload_n 0, 1) := by decide +kernel
theorem dX3_copyFrom_49 : decode cX3_copyFrom 49 = .ok (.getfield 21, 3) := by decide +kernel
theorem dX3_copyFrom_52 : decode cX3_copyFrom 52 = .ok (.iconst 0, 1) := by decide +kernel
theorem dX3_copyFrom_53 : decode cX3_copyFrom 53 = .ok (.bipush 8, 2) := by decide +kernel
theorem dX3_copyFrom_55 : decode cX3_copyFrom 55 = .ok (.invokestatic 49, 3) := by decide +kernel
theorem dX3_copyFrom_58 : decode cX3_copyFrom 58 = .ok (.aload_n 0, 1) := by decide +kernel
theorem dX3_copyFrom_59 : decode cX3_copyFrom 59 = .ok (.aload_n 1, 1) := by decide +kernel
theorem dX3_copyFrom_60 : decode cX3_copyFrom 60 = .ok (.getfield 30, 3) := by decide +kernel
theorem dX3_copyFrom_63 : decode cX3_copyFrom 63 = .ok (.putfield 30, 3) := by decide +kernel
theorem dX3_copyFrom_66 : decode cX3_copyFrom 66 = .ok (.aload_n 0, 1) := by decide +kernel
theorem dX3_copyFrom_67 : decode cX3_copyFrom 67 = .ok (.aload_n 1, 1) := by decide +kernel
theorem dX3_copyFrom_68 : decode cX3_copyFrom 68 = .ok (.getfield 34, 3) := by decide +kernel
theorem dX3_copyFrom_71 : decode cX3_copyFrom 71 = .ok (.putfield 34, 3) := by decide +kernel
theorem dX3_copyFrom_74 : decode cX3_copyFrom 74 = .ok (.aload_n 0, 1) := by decide +kernel
theorem dX3_copyFrom_75 : decode cX3_copyFrom 75 = .ok (.aload_n 1, 1) := by decide +kernel
theorem dX3_copyFrom_76 : decode cX3_copyFrom 76 = .ok (.getfield 37, 3) := by decide +kernel
theorem dX3_copyFrom_79 : decode cX3_copyFrom 79 = .ok (.putfield 37, 3) := by decide +kernel
theorem dX3_copyFrom_82 : decode cX3_copyFrom 82 = .ok (.aload_n 0, 1) := by decide +kernel
theorem dX3_copyFrom_83 : decode cX3_copyFrom 83 = .ok (.aload_n 1, 1) := by decide +kernel
theorem dX3_copyFrom_84 : decode cX3_copyFrom 84 = .ok (.getfield 40, 3) := by decide +kernel
theorem dX3_copyFrom_87 : decode cX3_copyFrom 87 = .ok (.putfield 40, 3) := by decide +kernel
theorem dX3_copyFrom_90 : decode cX3_copyFrom 90 = .ok (.aload_n 0, 1) := by decide +kernel
theorem dX3_copyFrom_91 : decode cX3_copyFrom 91 = .ok (.aload_n 1, 1) := by decide +kernel
theorem dX3_copyFrom_92 : decode cX3_copyFrom 92 = .ok (.getfield 43, 3) := by decide +kernel
theorem dX3_copyFrom_95 : decode cX3_copyFrom 95 = .ok (.putfield 43, 3) := by decide +kernel
theorem dX3_copyFrom_98 : decode cX3_copyFrom 98 = .ok (.return_, 1) := by decide +kernel
theorem dX3_takeGroup_0 : decode cX3_takeGroup 0 = .ok (.aload_n 0, 1) := by decide +kernel
theorem dX3_takeGroup_1 : decode cX3_takeGroup 1 = .ok (.aload_n 1, 1) := by decide +kernel
theorem dX3_takeGroup_2 : decode cX3_takeGroup 2 = .ok (.iconst 0, 1) := by decide +kernel
theorem dX3_takeGroup_3 : decode cX3_takeGroup 3 = .ok (.iaload, 1) := by decide +kernel
theorem dX3_takeGroup_4 : decode cX3_takeGroup 4 = .ok (.invokevirtual 55, 3) := by decide +kernel
theorem dX3_takeGroup_7 : decode cX3_takeGroup 7 = .ok (.aload_n 1, 1) := by decide +kernel
theorem dX3_takeGroup_8 : decode cX3_takeGroup 8 = .ok (.iconst 1, 1) := by decide +kernel
theorem dX3_takeGroup_9 : decode cX3_takeGroup 9 = .ok (.iaload, 1) := by decide +kernel
theorem dX3_takeGroup_10 : decode cX3_takeGroup 10 = .ok (.bipush (-9), 2) := by decide +kernel
theorem dX3_takeGroup_12 : decode cX3_takeGroup 12 = .ok (.if_icmp .ne 4, 3) := by decide +kernel
theorem dX3_takeGroup_15 : decode cX3_takeGroup 15 = .ok (.return_, 1) := by decide +kernel
theorem dX3_takeGroup_16 : decode cX3_takeGroup 16 = .ok (.aload_n 1, 1) := by decide +kernel
theorem dX3_takeGroup_17 : decode cX3_takeGroup 17 = .ok (.iconst 1, 1) := by decide +kernel
theorem dX3_takeGroup_18 : decode cX3_takeGroup 18 = .ok (.iaload, 1) := by decide +kernel
theorem dX3_takeGroup_19 : decode cX3_takeGroup 19 = .ok (.bipush 63, 2) := by decide +kernel
theorem dX3_takeGroup_21 : decode cX3_takeGroup 21 = .ok (.iand, 1) := by decide +kernel
theorem dX3_takeGroup_22 : decode cX3_takeGroup 22 = .ok (.istore_n 2, 1) := by decide +kernel
theorem dX3_takeGroup_23 : decode cX3_takeGroup 23 = .ok (.aload_n 1, 1) := by decide +kernel
theorem dX3_takeGroup_24 : decode cX3_takeGroup 24 = .ok (.iconst 1, 1) := by decide +kernel
theorem dX3_takeGroup_25 : decode cX3_takeGroup 25 = .ok (.iaload, 1) := by decide +kernel
theorem dX3_takeGroup_26 : decode cX3_takeGroup 26 = .ok (.bipush 6, 2) := by decide +kernel
theorem dX3_takeGroup_28 : decode cX3_takeGroup 28 = .ok (.ishr, 1) := by decide +kernel
theorem dX3_takeGroup_29 : decode cX3_takeGroup 29 = .ok (.tableswitch 73 0 2 #[27, 43, 56], 27) := by decide +kernel
theorem dX3_takeGroup_56 : decode cX3_takeGroup 56 = .ok (.aload_n 0, 1) := by decide +kernel
theorem dX3_takeGroup_57 : decode cX3_takeGroup 57 = .ok (.iload_n 2, 1) := by decide +kernel
theorem dX3_takeGroup_58 : decode cX3_takeGroup 58 = .ok (.iconst 3, 1) := by decide +kernel
theorem dX3_takeGroup_59 : decode cX3_takeGroup 59 = .ok (.iand, 1) := by decide +kernel
theorem dX3_takeGroup_60 : decode cX3_takeGroup 60 = .ok (.aload_n 1, 1) := by decide +kernel
theorem dX3_takeGroup_61 : decode cX3_takeGroup 61 = .ok (.iconst 2, 1) := by decide +kernel
theorem dX3_takeGroup_62 : decode cX3_takeGroup 62 = .ok (.iaload, 1) := by decide +kernel
theorem dX3_takeGroup_63 : decode cX3_takeGroup 63 = .ok (.aload_n 1, 1) := by decide +kernel
theorem dX3_takeGroup_64 : decode cX3_takeGroup 64 = .ok (.iconst 3, 1) := by decide +kernel
theorem dX3_takeGroup_65 : decode cX3_takeGroup 65 = .ok (.iaload, 1) := by decide +kernel
theorem dX3_takeGroup_66 : decode cX3_takeGroup 66 = .ok (.invokevirtual 59, 3) := by decide +kernel
theorem dX3_takeGroup_69 : decode cX3_takeGroup 69 = .ok (.goto 40, 3) := by decide +kernel
theorem dX3_takeGroup_72 : decode cX3_takeGroup 72 = .ok (.aload_n 0, 1) := by decide +kernel
theorem dX3_takeGroup_73 : decode cX3_takeGroup 73 = .ok (.aload_n 1, 1) := by decide +kernel
theorem dX3_takeGroup_74 : decode cX3_takeGroup 74 = .ok (.iconst 2, 1) := by decide +kernel
theorem dX3_takeGroup_75 : decode cX3_takeGroup 75 = .ok (.iaload, 1) := by decide +kernel
theorem dX3_takeGroup_76 : decode cX3_takeGroup 76 = .ok (.aload_n 1, 1) := by decide +kernel
theorem dX3_takeGroup_77 : decode cX3_takeGroup 77 = .ok (.iconst 3, 1) := by decide +kernel
theorem dX3_takeGroup_78 : decode cX3_takeGroup 78 = .ok (.iaload, 1) := by decide +kernel
theorem dX3_takeGroup_79 : decode cX3_takeGroup 79 = .ok (.invokevirtual 63, 3) := by decide +kernel
theorem dX3_takeGroup_82 : decode cX3_takeGroup 82 = .ok (.goto 27, 3) := by decide +kernel
theorem dX3_takeGroup_85 : decode cX3_takeGroup 85 = .ok (.aload_n 0, 1) := by decide +kernel
theorem dX3_takeGroup_86 : decode cX3_takeGroup 86 = .ok (.aload_n 1, 1) := by decide +kernel
theorem dX3_takeGroup_87 : decode cX3_takeGroup 87 = .ok (.iconst 2, 1) := by decide +kernel
theorem dX3_takeGroup_88 : decode cX3_takeGroup 88 = .ok (.iaload, 1) := by decide +kernel
theorem dX3_takeGroup_89 : decode cX3_takeGroup 89 = .ok (.invokevirtual 67, 3) := by decide +kernel
theorem dX3_takeGroup_92 : decode cX3_takeGroup 92 = .ok (.aload_n 0, 1) := by decide +kernel
theorem dX3_takeGroup_93 : decode cX3_takeGroup 93 = .ok (.aload_n 1, 1) := by decide +kernel
theorem dX3_takeGroup_94 : decode cX3_takeGroup 94 = .ok (.iconst 3, 1) := by decide +kernel
theorem dX3_takeGroup_95 : decode cX3_takeGroup 95 = .ok (.iaload, 1) := by decide +kernel
theorem dX3_takeGroup_96 : decode cX3_takeGroup 96 = .ok (.invokevirtual 67, 3) := by decide +kernel
theorem dX3_takeGroup_99 : decode cX3_takeGroup 99 = .ok (.goto 10, 3) := by decide +kernel
theorem dX3_takeGroup_102 : decode cX3_takeGroup 102 = .ok (.aload_n 0, 1) := by decide +kernel
theorem dX3_takeGroup_103 : decode cX3_takeGroup 103 = .ok (.iload_n 2, 1) := by decide +kernel
theorem dX3_takeGroup_104 : decode cX3_takeGroup 104 = .ok (.iconst 1, 1) := by decide +kernel
theorem dX3_takeGroup_105 : decode cX3_takeGroup 105 = .ok (.iand, 1) := by decide +kernel
theorem dX3_takeGroup_106 : decode cX3_takeGroup 106 = .ok (.invokevirtual 70, 3) := by decide +kernel
theorem dX3_takeGroup_109 : decode cX3_takeGroup 109 = .ok (.return_, 1) := by decide +kernel
theorem dX3_takeProgram_0 : decode cX3_takeProgram 0 = .ok (.iload_n 1, 1) := by decide +kernel
theorem dX3_takeProgram_1 : decode cX3_takeProgram 1 = .ok (.bipush (-9), 2) := by decide +kernel
theorem dX3_takeProgram_3 : decode cX3_takeProgram 3 = .ok (.if_icmp .ne 4, 3) := by decide +kernel
theorem dX3_takeProgram_6 : decode cX3_takeProgram 6 = .ok (.return_, 1) := by decide +kernel
theorem dX3_takeProgram_7 : decode cX3_takeProgram 7 = .ok (.iload_n 1, 1) := by decide +kernel
theorem dX3_takeProgram_8 : decode cX3_takeProgram 8 = .ok (.aload_n 0, 1) := by decide +kernel
theorem dX3_takeProgram_9 : decode cX3_takeProgram 9 = .ok (.getfield 37, 3) := by decide +kernel
theorem dX3_takeProgram_12 : decode cX3_takeProgram 12 = .ok (.if_icmp .ne 8, 3) := by decide +kernel
theorem dX3_takeProgram_15 : decode cX3_takeProgram 15 = .ok (.aload_n 0, 1) := by decide +kernel
theorem dX3_takeProgram_16 : decode cX3_takeProgram 16 = .ok (.iload_n 1, 1) := by decide +kernel
theorem dX3_takeProgram_17 : decode cX3_takeProgram 17 = .ok (.putfield 34, 3) := by decide +kernel
theorem dX3_takeProgram_20 : decode cX3_takeProgram 20 = .ok (.aload_n 0, 1) := by decide +kernel
theorem dX3_takeProgram_21 : decode cX3_takeProgram 21 = .ok (.iload_n 1, 1) := by decide +kernel
theorem dX3_takeProgram_22 : decode cX3_takeProgram 22 = .ok (.putfield 37, 3) := by decide +kernel
theorem dX3_takeProgram_25 : decode cX3_takeProgram 25 = .ok (.return_, 1) := by decide +kernel
theorem dX3_takePair_0 : decode cX3_takePair 0 = .ok (.iload_n 2, 1) := by decide +kernel
theorem dX3_takePair_1 : decode cX3_takePair 1 = .ok (.bipush (-9), 2) := by decide +kernel
theorem dX3_takePair_3 : decode cX3_takePair 3 = .ok (.if_icmp .eq 9, 3) := by decide +kernel
theorem dX3_takePair_6 : decode cX3_takePair 6 = .ok (.iload_n 3, 1) := by decide +kernel
theorem dX3_takePair_7 : decode cX3_takePair 7 = .ok (.bipush (-9), 2) := by decide +kernel
theorem dX3_takePair_9 : decode cX3_takePair 9 = .ok (.if_icmp .ne 4, 3) := by decide +kernel
theorem dX3_takePair_12 : decode cX3_takePair 12 = .ok (.return_, 1) := by decide +kernel
theorem dX3_takePair_13 : decode cX3_takePair 13 = .ok (.sipush 256, 3) := by decide +kernel
theorem dX3_takePair_16 : decode cX3_takePair 16 = .ok (.iload_n 2, 1) := by decide +kernel
theorem dX3_takePair_17 : decode cX3_takePair 17 = .ok (.imul, 1) := by decide +kernel
theorem dX3_takePair_18 : decode cX3_takePair 18 = .ok (.iload_n 3, 1) := by decide +kernel
theorem dX3_takePair_19 : decode cX3_takePair 19 = .ok (.iadd, 1) := by decide +kernel
theorem dX3_takePair_20 : decode cX3_takePair 20 = .ok (.istore 4, 2) := by decide +kernel
theorem dX3_takePair_22 : decode cX3_takePair 22 = .ok (.iload 4, 2) := by decide +kernel
theorem dX3_takePair_24 : decode cX3_takePair 24 = .ok (.aload_n 0, 1) := by decide +kernel
theorem dX3_takePair_25 : decode cX3_takePair 25 = .ok (.getfield 15, 3) := by decide +kernel
theorem dX3_takePair_28 : decode cX3_takePair 28 = .ok (.iload_n 1, 1) := by decide +kernel
theorem dX3_takePair_29 : decode cX3_takePair 29 = .ok (.iaload, 1) := by decide +kernel
theorem dX3_takePair_30 : decode cX3_takePair 30 = .ok (.if_icmp .ne 11, 3) := by decide +kernel
theorem dX3_takePair_33 : decode cX3_takePair 33 = .ok (.aload_n 0, 1) := by decide +kernel
theorem dX3_takePair_34 : decode cX3_takePair 34 = .ok (.getfield 11, 3) := by decide +kernel
theorem dX3_takePair_37 : decode cX3_takePair 37 = .ok (.iload_n 1, 1) := by decide +kernel
theorem dX3_takePair_38 : decode cX3_takePair 38 = .ok (.iload 4, 2) := by decide +kernel
theorem dX3_takePair_40 : decode cX3_takePair 40 = .ok (.iastore, 1) := by decide +kernel
theorem dX3_takePair_41 : decode cX3_takePair 41 = .ok (.aload_n 0, 1) := by decide +kernel
theorem dX3_takePair_42 : decode cX3_takePair 42 = .ok (.getfield 15, 3) := by decide +kernel
theorem dX3_takePair_45 : decode cX3_takePair 45 = .ok (.iload_n 1, 1) := by decide +kernel
theorem dX3_takePair_46 : decode cX3_takePair 46 = .ok (.iload 4, 2) := by decide +kernel
theorem dX3_takePair_48 : decode cX3_takePair 48 = .ok (.iastore, 1) := by decide +kernel
theorem dX3_takePair_49 : decode cX3_takePair 49 = .ok (.return_, 1) := by decide +kernel
theorem dX3_takeClock_0 : decode cX3_takeClock 0 = .ok (.iload_n 1, 1) := by decide +kernel
theorem dX3_takeClock_1 : decode cX3_takeClock 1 = .ok (.ifCond .lt 29, 3) := by decide +kernel
theorem dX3_takeClock_4 : decode cX3_takeClock 4 = .ok (.iload_n 1, 1) := by decide +kernel
theorem dX3_takeClock_5 : decode cX3_takeClock 5 = .ok (.bipush 23, 2) := by decide +kernel
theorem dX3_takeClock_7 : decode cX3_takeClock 7 = .ok (.if_icmp .gt 23, 3) := by decide +kernel
theorem dX3_takeClock_10 : decode cX3_takeClock 10 = .ok (.iload_n 2, 1) := by decide +kernel
theorem dX3_takeClock_11 : decode cX3_takeClock 11 = .ok (.ifCond .lt 19, 3) := by decide +kernel
theorem dX3_takeClock_14 : decode cX3_takeClock 14 = .ok (.iload_n 2, 1) := by decide +kernel
theorem dX3_takeClock_15 : decode cX3_takeClock 15 = .ok (.bipush 59, 2) := by decide +kernel
theorem dX3_takeClock_17 : decode cX3_takeClock 17 = .ok (.if_icmp .gt 13, 3) := by decide +kernel
theorem dX3_takeClock_20 : decode cX3_takeClock 20 = .ok (.aload_n 0, 1) := by decide +kernel
theorem dX3_takeClock_21 : decode cX3_takeClock 21 = .ok (.bipush 60, 2) := by decide +kernel
theorem dX3_takeClock_23 : decode cX3_takeClock 23 = .ok (.iload_n 1, 1) := by decide +kernel
theorem dX3_takeClock_24 : decode cX3_takeClock 24 = .ok (.imul, 1) := by decide +kernel
theorem dX3_takeClock_25 : decode cX3_takeClock 25 = .ok (.iload_n 2, 1) := by decide +kernel
theorem dX3_takeClock_26 : decode cX3_takeClock 26 = .ok (.iadd, 1) := by decide +kernel
theorem dX3_takeClock_27 : decode cX3_takeClock 27 = .ok (.putfield 40, 3) := by decide +kernel
theorem dX3_takeClock_30 : decode cX3_takeClock 30 = .ok (.return_, 1) := by decide +kernel
theorem dX3_takeStation_0 : decode cX3_takeStation 0 = .ok (.iload_n 1, 1) := by decide +kernel
theorem dX3_takeStation_1 : decode cX3_takeStation 1 = .ok (.iconst 1, 1) := by decide +kernel
theorem dX3_takeStation_2 : decode cX3_takeStation 2 = .ok (.if_icmp .lt 10, 3) := by decide +kernel
theorem dX3_takeStation_5 : decode cX3_takeStation 5 = .ok (.iload_n 1, 1) := by decide +kernel
theorem dX3_takeStation_6 : decode cX3_takeStation 6 = .ok (.sipush 204, 3) := by decide +kernel
theorem dX3_takeStation_9 : decode cX3_takeStation 9 = .ok (.if_icmp .le 4, 3) := by decide +kernel
theorem dX3_takeStation_12 : decode cX3_takeStation 12 = .ok (.return_, 1) := by decide +kernel
theorem dX3_takeStation_13 : decode cX3_takeStation 13 = .ok (.iconst 0, 1) := by decide +kernel
theorem dX3_takeStation_14 : decode cX3_takeStation 14 = .ok (.istore_n 2, 1) := by decide +kernel
theorem dX3_takeStation_15 : decode cX3_takeStation 15 = .ok (.iload_n 2, 1) := by decide +kernel
theorem dX3_takeStation_16 : decode cX3_takeStation 16 = .ok (.aload_n 0, 1) := by decide +kernel
theorem dX3_takeStation_17 : decode cX3_takeStation 17 = .ok (.getfield 30, 3) := by decide +kernel
theorem dX3_takeStation_20 : decode cX3_takeStation 20 = .ok (.if_icmp .ge 39, 3) := by decide +kernel
theorem dX3_takeStation_23 : decode cX3_takeStation 23 = .ok (.aload_n 0, 1) := by decide +kernel
theorem dX3_takeStation_24 : decode cX3_takeStation 24 = .ok (.getfield 18, 3) := by decide +kernel
theorem dX3_takeStation_27 : decode cX3_takeStation 27 = .ok (.iload_n 2, 1) := by decide +kernel
theorem dX3_takeStation_28 : decode cX3_takeStation 28 = .ok (.iaload, 1) := by decide +kernel
theorem dX3_takeStation_29 : decode cX3_takeStation 29 = .ok (.iload_n 1, 1) := by decide +kernel
theorem dX3_takeStation_30 : decode cX3_takeStation 30 = .ok (.if_icmp .ne 23, 3) := by decide +kernel
theorem dX3_takeStation_33 : decode cX3_takeStation 33 = .ok (.aload_n 0, 1) := by decide +kernel
theorem dX3_takeStation_34 : decode cX3_takeStation 34 = .ok (.getfield 21, 3) := by decide +kernel
theorem dX3_takeStation_37 : decode cX3_takeStation 37 = .ok (.iload_n 2, 1) := by decide +kernel
theorem dX3_takeStation_38 : decode cX3_takeStation 38 = .ok (.aload_n 0, 1) := by decide +kernel
theorem dX3_takeStation_39 : decode cX3_takeStation 39 = .ok (.getfield 21, 3) := by decide +kernel
theorem dX3_takeStation_42 : decode cX3_takeStation 42 = .ok (.iload_n 2, 1) := by decide +kernel
theorem dX3_takeStation_43 : decode cX3_takeStation 43 = .ok (.iaload, 1) := by decide +kernel
theorem dX3_takeStation_44 : decode cX3_takeStation 44 = .ok (.iconst 1, 1) := by decide +kernel
theorem dX3_takeStation_45 : decode cX3_takeStation 45 = .ok (.iadd, 1) := by decide +kernel
theorem dX3_takeStation_46 : decode cX3_takeStation 46 = .ok (.bipush 99, 2) := by decide +kernel
theorem dX3_takeStation_48 : decode cX3_takeStation 48 = .ok (.invokestatic 73, 3) := by decide +kernel
theorem dX3_takeStation_51 : decode cX3_takeStation 51 = .ok (.iastore, 1) := by decide +kernel
theorem dX3_takeStation_52 : decode cX3_takeStation 52 = .ok (.return_, 1) := by decide +kernel
theorem dX3_takeStation_53 : decode cX3_takeStation 53 = .ok (.iinc 2 1, 3) := by decide +kernel
theorem dX3_takeStation_56 : decode cX3_takeStation 56 = .ok (.goto (-41), 3) := by decide +kernel
theorem dX3_takeStation_59 : decode cX3_takeStation 59 = .ok (.aload_n 0, 1) := by decide +kernel
theorem dX3_takeStation_60 : decode cX3_takeStation 60 = .ok (.getfield 30, 3) := by decide +kernel
theorem dX3_takeStation_63 : decode cX3_takeStation 63 = .ok (.bipush 8, 2) := by decide +kernel
theorem dX3_takeStation_65 : decode cX3_takeStation 65 = .ok (.if_icmp .ge 33, 3) := by decide +kernel
theorem dX3_takeStation_68 : decode cX3_takeStation 68 = .ok (.aload_n 0, 1) := by decide +kernel
theorem dX3_takeStation_69 : decode cX3_takeStation 69 = .ok (.getfield 18, 3) := by decide +kernel
theorem dX3_takeStation_72 : decode cX3_takeStation 72 = .ok (.aload_n 0, 1) := by decide +kernel
theorem dX3_takeStation_73 : decode cX3_takeStation 73 = .ok (.getfield 30, 3) := by decide +kernel
theorem dX3_takeStation_76 : decode cX3_takeStation 76 = .ok (.iload_n 1, 1) := by decide +kernel
theorem dX3_takeStation_77 : decode cX3_takeStation 77 = .ok (.iastore, 1) := by decide +kernel
theorem dX3_takeStation_78 : decode cX3_takeStation 78 = .ok (.aload_n 0, 1) := by decide +kernel
theorem dX3_takeStation_79 : decode cX3_takeStation 79 = .ok (.getfield 21, 3) := by decide +kernel
theorem dX3_takeStation_82 : decode cX3_takeStation 82 = .ok (.aload_n 0, 1) := by decide +kernel
theorem dX3_takeStation_83 : decode cX3_takeStation 83 = .ok (.getfield 30, 3) := by decide +kernel
theorem dX3_takeStation_86 : decode cX3_takeStation 86 = .ok (.iconst 1, 1) := by decide +kernel
theorem dX3_takeStation_87 : decode cX3_takeStation 87 = .ok (.iastore, 1) := by decide +kernel
theorem dX3_takeStation_88 : decode cX3_takeStation 88 = .ok (.aload_n 0, 1) := by decide +kernel
theorem dX3_takeStation_89 : decode cX3_takeStation 89 = .ok (.dup, 1) := by decide +kernel
theorem dX3_takeStation_90 : decode cX3_takeStation 90 = .ok (.getfield 30, 3) := by decide +kernel
theorem dX3_takeStation_93 : decode cX3_takeStation 93 = .ok (.iconst 1, 1) := by decide +kernel
theorem dX3_takeStation_94 : decode cX3_takeStation 94 = .ok (.iadd, 1) := by decide +kernel
theorem dX3_takeStation_95 : decode cX3_takeStation 95 = .ok (.putfield 30, 3) := by decide +kernel
theorem dX3_takeStation_98 : decode cX3_takeStation 98 = .ok (.return_, 1) := by decide +kernel
theorem dX3_takeFlag_0 : decode cX3_takeFlag 0 = .ok (.iload_n 1, 1) := by decide +kernel
theorem dX3_takeFlag_1 : decode cX3_takeFlag 1 = .ok (.aload_n 0, 1) := by decide +kernel
theorem dX3_takeFlag_2 : decode cX3_takeFlag 2 = .ok (.getfield 43, 3) := by decide +kernel
theorem dX3_takeFlag_5 : decode cX3_takeFlag 5 = .ok (.if_icmp .eq 7, 3) := by decide +kernel
theorem dX3_takeFlag_8 : decode cX3_takeFlag 8 = .ok (.aload_n 0, 1) := by decide +kernel
theorem dX3_takeFlag_9 : decode cX3_takeFlag 9 = .ok (.invokevirtual 46, 3) := by decide +kernel
theorem dX3_takeFlag_12 : decode cX3_takeFlag 12 = .ok (.aload_n 0, 1) := by decide +kernel
theorem dX3_takeFlag_13 : decode cX3_takeFlag 13 = .ok (.iload_n 1, 1) := by decide +kernel
theorem dX3_takeFlag_14 : decode cX3_takeFlag 14 = .ok (.putfield 43, 3) := by decide +kernel
theorem dX3_takeFlag_17 : decode cX3_takeFlag 17 = .ok (.return_, 1) := by decide +kernel
theorem dX3_indexInOrder_0 : decode cX3_indexInOrder 0 = .ok (.iconst 0, 1) := by decide +kernel
theorem dX3_indexInOrder_1 : decode cX3_indexInOrder 1 = .ok (.istore_n 2, 1) := by decide +kernel
theorem dX3_indexInOrder_2 : decode cX3_indexInOrder 2 = .ok (.iload_n 2, 1) := by decide +kernel
theorem dX3_indexInOrder_3 : decode cX3_indexInOrder 3 = .ok (.aload_n 0, 1) := by decide +kernel
theorem dX3_indexInOrder_4 : decode cX3_indexInOrder 4 = .ok (.getfield 30, 3) := by decide +kernel
theorem dX3_indexInOrder_7 : decode cX3_indexInOrder 7 = .ok (.if_icmp .ge 54, 3) := by decide +kernel
theorem dX3_indexInOrder_10 : decode cX3_indexInOrder 10 = .ok (.iconst 0, 1) := by decide +kernel
theorem dX3_indexInOrder_11 : decode cX3_indexInOrder 11 = .ok (.istore_n 3, 1) := by decide +kernel
theorem dX3_indexInOrder_12 : decode cX3_indexInOrder 12 = .ok (.iconst 0, 1) := by decide +kernel
theorem dX3_indexInOrder_13 : decode cX3_indexInOrder 13 = .ok (.istore 4, 2) := by decide +kernel
theorem dX3_indexInOrder_15 : decode cX3_indexInOrder 15 = .ok (.iload 4, 2) := by decide +kernel
theorem dX3_indexInOrder_17 : decode cX3_indexInOrder 17 = .ok (.aload_n 0, 1) := by decide +kernel
theorem dX3_indexInOrder_18 : decode cX3_indexInOrder 18 = .ok (.getfield 30, 3) := by decide +kernel
theorem dX3_indexInOrder_21 : decode cX3_indexInOrder 21 = .ok (.if_icmp .ge 27, 3) := by decide +kernel
theorem dX3_indexInOrder_24 : decode cX3_indexInOrder 24 = .ok (.iload_n 3, 1) := by decide +kernel
theorem dX3_indexInOrder_25 : decode cX3_indexInOrder 25 = .ok (.aload_n 0, 1) := by decide +kernel
theorem dX3_indexInOrder_26 : decode cX3_indexInOrder 26 = .ok (.iload 4, 2) := by decide +kernel
theorem dX3_indexInOrder_28 : decode cX3_indexInOrder 28 = .ok (.iload_n 2, 1) := by decide +kernel
theorem dX3_indexInOrder_29 : decode cX3_indexInOrder 29 = .ok (.invokevirtual 79, 3) := by decide +kernel
theorem dX3_indexInOrder_32 : decode cX3_indexInOrder 32 = .ok (.ifCond .eq 7, 3) := by decide +kernel
theorem dX3_indexInOrder_35 : decode cX3_indexInOrder 35 = .ok (.iconst 1, 1) := by decide +kernel
theorem dX3_indexInOrder_36 : decode cX3_indexInOrder 36 = .ok (.goto 4, 3) := by decide +kernel
theorem dX3_indexInOrder_39 : decode cX3_indexInOrder 39 = .ok (.iconst 0, 1) := by decide +kernel
theorem dX3_indexInOrder_40 : decode cX3_indexInOrder 40 = .ok (.iadd, 1) := by decide +kernel
theorem dX3_indexInOrder_41 : decode cX3_indexInOrder 41 = .ok (.istore_n 3, 1) := by decide +kernel
theorem dX3_indexInOrder_42 : decode cX3_indexInOrder 42 = .ok (.iinc 4 1, 3) := by decide +kernel
theorem dX3_indexInOrder_45 : decode cX3_indexInOrder 45 = .ok (.goto (-30), 3) := by decide +kernel
theorem dX3_indexInOrder_48 : decode cX3_indexInOrder 48 = .ok (.iload_n 3, 1) := by decide +kernel
theorem dX3_indexInOrder_49 : decode cX3_indexInOrder 49 = .ok (.iload_n 1, 1) := by decide +kernel
theorem dX3_indexInOrder_50 : decode cX3_indexInOrder 50 = .ok (.if_icmp .ne 5, 3) := by decide +kernel
theorem dX3_indexInOrder_53 : decode cX3_indexInOrder 53 = .ok (.iload_n 2, 1) := by decide +kernel
theorem dX3_indexInOrder_54 : decode cX3_indexInOrder 54 = .ok (.ireturn, 1) := by decide +kernel
theorem dX3_indexInOrder_55 : decode cX3_indexInOrder 55 = .ok (.iinc 2 1, 3) := by decide +kernel
theorem dX3_indexInOrder_58 : decode cX3_indexInOrder 58 = .ok (.goto (-56), 3) := by decide +kernel
theorem dX3_indexInOrder_61 : decode cX3_indexInOrder 61 = .ok (.iconst (-1), 1) := by decide +kernel
theorem dX3_indexInOrder_62 : decode cX3_indexInOrder 62 = .ok (.ireturn, 1) := by decide +kernel
theorem dX3_comesBefore_0 : decode cX3_comesBefore 0 = .ok (.aload_n 0, 1) := by decide +kernel
theorem dX3_comesBefore_1 : decode cX3_comesBefore 1 = .ok (.getfield 21, 3) := by decide +kernel
theorem dX3_comesBefore_4 : decode cX3_comesBefore 4 = .ok (.iload_n 1, 1) := by decide +kernel
theorem dX3_comesBefore_5 : decode cX3_comesBefore 5 = .ok (.iaload, 1) := by decide +kernel
theorem dX3_comesBefore_6 : decode cX3_comesBefore 6 = .ok (.aload_n 0, 1) := by decide +kernel
theorem dX3_comesBefore_7 : decode cX3_comesBefore 7 = .ok (.getfield 21, 3) := by decide +kernel
theorem dX3_comesBefore_10 : decode cX3_comesBefore 10 = .ok (.iload_n 2, 1) := by decide +kernel
theorem dX3_comesBefore_11 : decode cX3_comesBefore 11 = .ok (.iaload, 1) := by decide +kernel
theorem dX3_comesBefore_12 : decode cX3_comesBefore 12 = .ok (.if_icmp .eq 24, 3) := by decide +kernel
theorem dX3_comesBefore_15 : decode cX3_comesBefore 15 = .ok (.aload_n 0, 1) := by decide +kernel
theorem dX3_comesBefore_16 : decode cX3_comesBefore 16 = .ok (.getfield 21, 3) := by decide +kernel
theorem dX3_comesBefore_19 : decode cX3_comesBefore 19 = .ok (.iload_n 1, 1) := by decide +kernel
theorem dX3_comesBefore_20 : decode cX3_comesBefore 20 = .ok (.iaload, 1) := by decide +kernel
theorem dX3_comesBefore_21 : decode cX3_comesBefore 21 = .ok (.aload_n 0, 1) := by decide +kernel
theorem dX3_comesBefore_22 : decode cX3_comesBefore 22 = .ok (.getfield 21, 3) := by decide +kernel
theorem dX3_comesBefore_25 : decode cX3_comesBefore 25 = .ok (.iload_n 2, 1) := by decide +kernel
theorem dX3_comesBefore_26 : decode cX3_comesBefore 26 = .ok (.iaload, 1) := by decide +kernel
theorem dX3_comesBefore_27 : decode cX3_comesBefore 27 = .ok (.if_icmp .le 7, 3) := by decide +kernel
theorem dX3_comesBefore_30 : decode cX3_comesBefore 30 = .ok (.iconst 1, 1) := by decide +kernel
theorem dX3_comesBefore_31 : decode cX3_comesBefore 31 = .ok (.goto 4, 3) := by decide +kernel
theorem dX3_comesBefore_34 : decode cX3_comesBefore 34 = .ok (.iconst 0, 1) := by decide +kernel
theorem dX3_comesBefore_35 : decode cX3_comesBefore 35 = .ok (.ireturn, 1) := by decide +kernel
theorem dX3_comesBefore_36 : decode cX3_comesBefore 36 = .ok (.aload_n 0, 1) := by decide +kernel
theorem dX3_comesBefore_37 : decode cX3_comesBefore 37 = .ok (.getfield 18, 3) := by decide +kernel
theorem dX3_comesBefore_40 : decode cX3_comesBefore 40 = .ok (.iload_n 1, 1) := by decide +kernel
theorem dX3_comesBefore_41 : decode cX3_comesBefore 41 = .ok (.iaload, 1) := by decide +kernel
theorem dX3_comesBefore_42 : decode cX3_comesBefore 42 = .ok (.aload_n 0, 1) := by decide +kernel
theorem dX3_comesBefore_43 : decode cX3_comesBefore 43 = .ok (.getfield 18, 3) := by decide +kernel
theorem dX3_comesBefore_46 : decode cX3_comesBefore 46 = .ok (.iload_n 2, 1) := by decide +kernel
theorem dX3_comesBefore_47 : decode cX3_comesBefore 47 = .ok (.iaload, 1) := by decide +kernel
theorem dX3_comesBefore_48 : decode cX3_comesBefore 48 = .ok (.if_icmp .ge 7, 3) := by decide +kernel
theorem dX3_comesBefore_51 : decode cX3_comesBefore 51 = .ok (.iconst 1, 1) := by decide +kernel
theorem dX3_comesBefore_52 : decode cX3_comesBefore 52 = .ok (.goto 4, 3) := by decide +kernel
theorem dX3_comesBefore_55 : decode cX3_comesBefore 55 = .ok (.iconst 0, 1) := by decide +kernel
theorem dX3_comesBefore_56 : decode cX3_comesBefore 56 = .ok (.ireturn, 1) := by decide +kernel
end
section
theorem dX4_init_0 : decode cX4_init 0 = .ok (.aload_n 0, 1) := by decide +kernel
theorem dX4_init_1 : decode cX4_init 1 = .ok (.invokespecial 3, 3) := by decide +kernel
theorem dX4_init_4 : decode cX4_init 4 = .ok (.aload_n 0, 1) := by decide +kernel
theorem dX4_init_5 : decode cX4_init 5 = .ok (.bipush 40, 2) := by decide +kernel
theorem dX4_init_7 : decode cX4_init 7 = .ok (.newarray .int, 2) := by decide +kernel
theorem dX4_init_9 : decode cX4_init 9 = .ok (.putfield 11, 3) := by decide +kernel
theorem dX4_init_12 : decode cX4_init 12 = .ok (.aload_n 0, 1) := by decide +kernel
theorem dX4_init_13 : decode cX4_init 13 = .ok (.iconst 0, 1) := by decide +kernel
theorem dX4_init_14 : decode cX4_init 14 = .ok (.putfield 15, 3) := by decide +kernel
theorem dX4_init_17 : decode cX4_init 17 = .ok (.return_, 1) := by decide +kernel
theorem dX4_add_0 : decode cX4_add 0 = .ok (.aload_n 0, 1) := by decide +kernel
theorem dX4_add_1 : decode cX4_add 1 = .ok (.getfield 15, 3) := by decide +kernel
theorem dX4_add_4 : decode cX4_add 4 = .ok (.bipush 40, 2) := by decide +kernel
theorem dX4_add_6 : decode cX4_add 6 = .ok (.if_icmp .lt 5, 3) := by decide +kernel
theorem dX4_add_9 : decode cX4_add 9 = .ok (.iconst 0, 1) := by decide +kernel
theorem dX4_add_10 : decode cX4_add 10 = .ok (.ireturn, 1) := by decide +kernel
theorem dX4_add_11 : decode cX4_add 11 = .ok (.aload_n 0, 1) := by decide +kernel
theorem dX4_add_12 : decode cX4_add 12 = .ok (.getfield 11, 3) := by decide +kernel
theorem dX4_add_15 : decode cX4_add 15 = .ok (.aload_n 0, 1) := by decide +kernel
theorem dX4_add_16 : decode cX4_add 16 = .ok (.getfield 15, 3) := by decide +kernel
theorem dX4_add_19 : decode cX4_add 19 = .ok (.iload_n 1, 1) := by decide +kernel
theorem dX4_add_20 : decode cX4_add 20 = .ok (.iastore, 1) := by decide +kernel
theorem dX4_add_21 : decode cX4_add 21 = .ok (.aload_n 0, 1) := by decide +kernel
theorem dX4_add_22 : decode cX4_add 22 = .ok (.dup, 1) := by decide +kernel
theorem dX4_add_23 : decode cX4_add 23 = .ok (.getfield 15, 3) := by decide +kernel
theorem dX4_add_26 : decode cX4_add 26 = .ok (.iconst 1, 1) := by decide +kernel
theorem dX4_add_27 : decode cX4_add 27 = .ok (.iadd, 1) := by decide +kernel
theorem dX4_add_28 : decode cX4_add 28 = .ok (.putfield 15, 3) := by decide +kernel
theorem dX4_add_31 : decode cX4_add 31 = .ok (.iconst 1, 1) := by decide +kernel
theorem dX4_add_32 : decode cX4_add 32 = .ok (.ireturn, 1) := by decide +kernel
theorem dX4_firstFault_0 : decode cX4_firstFault 0 = .ok (.aload_n 0, 1) := by decide +kernel
theorem dX4_firstFault_1 : decode cX4_firstFault 1 = .ok (.getfield 15, 3) := by decide +kernel
theorem dX4_firstFault_4 : decode cX4_firstFault 4 = .ok (.bipush 13, 2) := by decide +kernel
theorem dX4_firstFault_6 : decode cX4_firstFault 6 = .ok (.invokestatic 19, 3) := by decide +kernel
theorem dX4_firstFault_9 : decode cX4_firstFault 9 = .ok (.istore_n 1, 1) := by decide +kernel
theorem dX4_firstFault_10 : decode cX4_firstFault 10 = .ok (.iconst 0, 1) := by decide +kernel
theorem dX4_firstFault_11 : decode cX4_firstFault 11 = .ok (.istore_n 2, 1) := by decide +kernel
theorem dX4_firstFault_12 : decode cX4_firstFault 12 = .ok (.iload_n 2, 1) := by decide +kernel
theorem dX4_firstFault_13 : decode cX4_firstFault 13 = .ok (.iload_n 1, 1) := by decide +kernel
theorem dX4_firstFault_14 : decode cX4_firstFault 14 = .ok (.if_icmp .ge 19, 3) := by decide +kernel
theorem dX4_firstFault_17 : decode cX4_firstFault 17 = .ok (.aload_n 0, 1) := by decide +kernel
theorem dX4_firstFault_18 : decode cX4_firstFault 18 = .ok (.iload_n 2, 1) := by decide +kernel
theorem dX4_firstFault_19 : decode cX4_firstFault 19 = .ok (.invokevirtual 25, 3) := by decide +kernel
theorem dX4_firstFault_22 : decode cX4_firstFault 22 = .ok (.ifCond .ne 5, 3) := by decide +kernel
theorem dX4_firstFault_25 : decode cX4_firstFault 25 = .ok (.iload_n 2, 1) := by decide +kernel
theorem dX4_firstFault_26 : decode cX4_firstFault 26 = .ok (.ireturn, 1) := by decide +kernel
theorem dX4_firstFault_27 : decode cX4_firstFault 27 = .ok (.iinc 2 1, 3) := by decide +kernel
theorem dX4_firstFault_30 : decode cX4_firstFault 30 = .ok (.goto (-18), 3) := by decide +kernel
theorem dX4_firstFault_33 : decode cX4_firstFault 33 = .ok (.aload_n 0, 1) := by decide +kernel
theorem dX4_firstFault_34 : decode cX4_firstFault 34 = .ok (.getfield 15, 3) := by decide +kernel
theorem dX4_firstFault_37 : decode cX4_firstFault 37 = .ok (.bipush 13, 2) := by decide +kernel
theorem dX4_firstFault_39 : decode cX4_firstFault 39 = .ok (.if_icmp .ne 8, 3) := by decide +kernel
theorem dX4_firstFault_42 : decode cX4_firstFault 42 = .ok (.bipush (-9), 2) := by decide +kernel
theorem dX4_firstFault_44 : decode cX4_firstFault 44 = .ok (.goto 4, 3) := by decide +kernel
theorem dX4_firstFault_47 : decode cX4_firstFault 47 = .ok (.iload_n 1, 1) := by decide +kernel
theorem dX4_firstFault_48 : decode cX4_firstFault 48 = .ok (.ireturn, 1) := by decide +kernel
theorem dX4_fits_0 : decode cX4_fits 0 = .ok (.iload_n 1, 1) := by decide +kernel
theorem dX4_fits_1 : decode cX4_fits 1 = .ok (.ifCond .ne 20, 3) := by decide +kernel
theorem dX4_fits_4 : decode cX4_fits 4 = .ok (.aload_n 0, 1) := by decide +kernel
theorem dX4_fits_5 : decode cX4_fits 5 = .ok (.getfield 11, 3) := by decide +kernel
theorem dX4_fits_8 : decode cX4_fits 8 = .ok (.iconst 0, 1) := by decide +kernel
theorem dX4_fits_9 : decode cX4_fits 9 = .ok (.iaload, 1) := by decide +kernel
theorem dX4_fits_10 : decode cX4_fits 10 = .ok (.bipush 83, 2) := by decide +kernel
theorem dX4_fits_12 : decode cX4_fits 12 = .ok (.if_icmp .ne 7, 3) := by decide +kernel
theorem dX4_fits_15 : decode cX4_fits 15 = .ok (.iconst 1, 1) := by decide +kernel
theorem dX4_fits_16 : decode cX4_fits 16 = .ok (.goto 4, 3) := by decide +kernel
theorem dX4_fits_19 : decode cX4_fits 19 = .ok (.iconst 0, 1) := by decide +kernel
theorem dX4_fits_20 : decode cX4_fits 20 = .ok (.ireturn, 1) := by decide +kernel
theorem dX4_fits_21 : decode cX4_fits 21 = .ok (.aload_n 0, 1) := by decide +kernel
theorem dX4_fits_22 : decode cX4_fits 22 = .ok (.iload_n 1, 1) := by decide +kernel
theorem dX4_fits_23 : decode cX4_fits 23 = .ok (.invokevirtual 29, 3) := by decide +kernel
theorem dX4_fits_26 : decode cX4_fits 26 = .ok (.istore_n 2, 1) := by decide +kernel
theorem dX4_fits_27 : decode cX4_fits 27 = .ok (.iload_n 2, 1) := by decide +kernel
theorem dX4_fits_28 : decode cX4_fits 28 = .ok (.ifCond .lt 9, 3) := by decide +kernel
theorem dX4_fits_31 : decode cX4_fits 31 = .ok (.iload_n 2, 1) := by decide +kernel
theorem dX4_fits_32 : decode cX4_fits 32 = .ok (.bipush 9, 2) := by decide +kernel
theorem dX4_fits_34 : decode cX4_fits 34 = .ok (.if_icmp .le 5, 3) := by decide +kernel
theorem dX4_fits_37 : decode cX4_fits 37 = .ok (.iconst 0, 1) := by decide +kernel
theorem dX4_fits_38 : decode cX4_fits 38 = .ok (.ireturn, 1) := by decide +kernel
theorem dX4_fits_39 : decode cX4_fits 39 = .ok (.iload_n 1, 1) := by decide +kernel
theorem dX4_fits_40 : decode cX4_fits 40 = .ok (.bipush 11, 2) := by decide +kernel
theorem dX4_fits_42 : decode cX4_fits 42 = .ok (.if_icmp .ne 14, 3) := by decide +kernel
theorem dX4_fits_45 : decode cX4_fits 45 = .ok (.iload_n 2, 1) := by decide +kernel
theorem dX4_fits_46 : decode cX4_fits 46 = .ok (.iconst 3, 1) := by decide +kernel
theorem dX4_fits_47 : decode cX4_fits 47 = .ok (.if_icmp .gt 7, 3) := by decide +kernel
theorem dX4_fits_50 : decode cX4_fits 50 = .ok (.iconst 1, 1) := by decide +kernel
theorem dX4_fits_51 : decode cX4_fits 51 = .ok (.goto 4, 3) := by decide +kernel
theorem dX4_fits_54 : decode cX4_fits 54 = .ok (.iconst 0, 1) := by decide +kernel
theorem dX4_fits_55 : decode cX4_fits 55 = .ok (.ireturn, 1) := by decide +kernel
theorem dX4_fits_56 : decode cX4_fits 56 = .ok (.iload_n 1, 1) := by decide +kernel
theorem dX4_fits_57 : decode cX4_fits 57 = .ok (.bipush 12, 2) := by decide +kernel
theorem dX4_fits_59 : decode cX4_fits 59 = .ok (.if_icmp .ne 14, 3) := by decide +kernel
theorem dX4_fits_62 : decode cX4_fits 62 = .ok (.iload_n 2, 1) := by decide +kernel
theorem dX4_fits_63 : decode cX4_fits 63 = .ok (.iconst 1, 1) := by decide +kernel
theorem dX4_fits_64 : decode cX4_fits 64 = .ok (.if_icmp .lt 7, 3) := by decide +kernel
theorem dX4_fits_67 : decode cX4_fits 67 = .ok (.iconst 1, 1) := by decide +kernel
theorem dX4_fits_68 : decode cX4_fits 68 = .ok (.goto 4, 3) := by decide +kernel
theorem dX4_fits_71 : decode cX4_fits 71 = .ok (.iconst 0, 1) := by decide +kernel
theorem dX4_fits_72 : decode cX4_fits 72 = .ok (.ireturn, 1) := by decide +kernel
theorem dX4_fits_73 : decode cX4_fits 73 = .ok (.iload_n 1, 1) := by decide +kernel
theorem dX4_fits_74 : decode cX4_fits 74 = .ok (.iconst 1, 1) := by decide +kernel
theorem dX4_fits_75 : decode cX4_fits 75 = .ok (.iand, 1) := by decide +kernel
theorem dX4_fits_76 : decode cX4_fits 76 = .ok (.iconst 1, 1) := by decide +kernel
theorem dX4_fits_77 : decode cX4_fits 77 = .ok (.if_icmp .ne 17, 3) := by decide +kernel
theorem dX4_fits_80 : decode cX4_fits 80 = .ok (.iload_n 2, 1) := by decide +kernel
theorem dX4_fits_81 : decode cX4_fits 81 = .ok (.bipush 6, 2) := by decide +kernel
theorem dX4_fits_83 : decode cX4_fits 83 = .ok (.if_icmp .gt 7, 3) := by decide +kernel
theorem dX4_fits_86 : decode cX4_fits 86 = .ok (.iconst 1, 1) := by decide +kernel
theorem dX4_fits_87 : decode cX4_fits 87 = .ok (.goto 12, 3) := by decide +kernel
theorem dX4_fits_90 : decode cX4_fits 90 = .ok (.iconst 0, 1) := by decide +kernel
theorem dX4_fits_91 : decode cX4_fits 91 = .ok (.goto 8, 3) := by decide +kernel
theorem dX4_fits_94 : decode cX4_fits 94 = .ok (.aload_n 0, 1) := by decide +kernel
theorem dX4_fits_95 : decode cX4_fits 95 = .ok (.iload_n 1, 1) := by decide +kernel
theorem dX4_fits_96 : decode cX4_fits 96 = .ok (.invokevirtual 33, 3) := by decide +kernel
theorem dX4_fits_99 : decode cX4_fits 99 = .ok (.ireturn, 1) := by decide +kernel
theorem dX4_endsNumber_0 : decode cX4_endsNumber 0 = .ok (.aload_n 0, 1) := by decide +kernel
theorem dX4_endsNumber_1 : decode cX4_endsNumber 1 = .ok (.iload_n 1, 1) := by decide +kernel
theorem dX4_endsNumber_2 : decode cX4_endsNumber 2 = .ok (.iconst 1, 1) := by decide +kernel
theorem dX4_endsNumber_3 : decode cX4_endsNumber 3 = .ok (.isub, 1) := by decide +kernel
theorem dX4_endsNumber_4 : decode cX4_endsNumber 4 = .ok (.invokevirtual 36, 3) := by decide +kernel
theorem dX4_endsNumber_7 : decode cX4_endsNumber 7 = .ok (.istore_n 2, 1) := by decide +kernel
theorem dX4_endsNumber_8 : decode cX4_endsNumber 8 = .ok (.iload_n 2, 1) := by decide +kernel
theorem dX4_endsNumber_9 : decode cX4_endsNumber 9 = .ok (.bipush 63, 2) := by decide +kernel
theorem dX4_endsNumber_11 : decode cX4_endsNumber 11 = .ok (.if_icmp .le 5, 3) := by decide +kernel
theorem dX4_endsNumber_14 : decode cX4_endsNumber 14 = .ok (.iconst 0, 1) := by decide +kernel
theorem dX4_endsNumber_15 : decode cX4_endsNumber 15 = .ok (.ireturn, 1) := by decide +kernel
theorem dX4_endsNumber_16 : decode cX4_endsNumber 16 = .ok (.iload_n 1, 1) := by decide +kernel
theorem dX4_endsNumber_17 : decode cX4_endsNumber 17 = .ok (.iconst 3, 1) := by decide +kernel
theorem dX4_endsNumber_18 : decode cX4_endsNumber 18 = .ok (.if_icmp .ge 16, 3) := by decide +kernel
theorem dX4_endsNumber_21 : decode cX4_endsNumber 21 = .ok (.iload_n 2, 1) := by decide +kernel
theorem dX4_endsNumber_22 : decode cX4_endsNumber 22 = .ok (.iconst 1, 1) := by decide +kernel
theorem dX4_endsNumber_23 : decode cX4_endsNumber 23 = .ok (.iand, 1) := by decide +kernel
theorem dX4_endsNumber_24 : decode cX4_endsNumber 24 = .ok (.iconst 1, 1) := by decide +kernel
theorem dX4_endsNumber_25 : decode cX4_endsNumber 25 = .ok (.if_icmp .ne 7, 3) := by decide +kernel
theorem dX4_endsNumber_28 : decode cX4_endsNumber 28 = .ok (.iconst 1, 1) := by decide +kernel
theorem dX4_endsNumber_29 : decode cX4_endsNumber 29 = .ok (.goto 4, 3) := by decide +kernel
theorem dX4_endsNumber_32 : decode cX4_endsNumber 32 = .ok (.iconst 0, 1) := by decide +kernel
theorem dX4_endsNumber_33 : decode cX4_endsNumber 33 = .ok (.ireturn, 1) := by decide +kernel
theorem dX4_endsNumber_34 : decode cX4_endsNumber 34 = .ok (.iconst 3, 1) := by decide +kernel
theorem dX4_endsNumber_35 : decode cX4_endsNumber 35 = .ok (.istore_n 3, 1) := by decide +kernel
theorem dX4_endsNumber_36 : decode cX4_endsNumber 36 = .ok (.iload_n 3, 1) := by decide +kernel
theorem dX4_endsNumber_37 : decode cX4_endsNumber 37 = .ok (.iload_n 1, 1) := by decide +kernel
theorem dX4_endsNumber_38 : decode cX4_endsNumber 38 = .ok (.iconst 1, 1) := by decide +kernel
theorem dX4_endsNumber_39 : decode cX4_endsNumber 39 = .ok (.isub, 1) := by decide +kernel
theorem dX4_endsNumber_40 : decode cX4_endsNumber 40 = .ok (.if_icmp .ge 20, 3) := by decide +kernel
theorem dX4_endsNumber_43 : decode cX4_endsNumber 43 = .ok (.aload_n 0, 1) := by decide +kernel
theorem dX4_endsNumber_44 : decode cX4_endsNumber 44 = .ok (.iload_n 3, 1) := by decide +kernel
theorem dX4_endsNumber_45 : decode cX4_endsNumber 45 = .ok (.invokevirtual 36, 3) := by decide +kernel
theorem dX4_endsNumber_48 : decode cX4_endsNumber 48 = .ok (.iload_n 2, 1) := by decide +kernel
theorem dX4_endsNumber_49 : decode cX4_endsNumber 49 = .ok (.if_icmp .ne 5, 3) := by decide +kernel
theorem dX4_endsNumber_52 : decode cX4_endsNumber 52 = .ok (.iconst 0, 1) := by decide +kernel
theorem dX4_endsNumber_53 : decode cX4_endsNumber 53 = .ok (.ireturn, 1) := by decide +kernel
theorem dX4_endsNumber_54 : decode cX4_endsNumber 54 = .ok (.iinc 3 2, 3) := by decide +kernel
theorem dX4_endsNumber_57 : decode cX4_endsNumber 57 = .ok (.goto (-21), 3) := by decide +kernel
theorem dX4_endsNumber_60 : decode cX4_endsNumber 60 = .ok (.iconst 1, 1) := by decide +kernel
theorem dX4_endsNumber_61 : decode cX4_endsNumber 61 = .ok (.ireturn, 1) := by decide +kernel
theorem dX4_figureAt_0 : decode cX4_figureAt 0 = .ok (.aload_n 0, 1) := by decide +kernel
theorem dX4_figureAt_1 : decode cX4_figureAt 1 = .ok (.getfield 11, 3) := by decide +kernel
theorem dX4_figureAt_4 : decode cX4_figureAt 4 = .ok (.iload_n 1, 1) := by decide +kernel
theorem dX4_figureAt_5 : decode cX4_figureAt 5 = .ok (.iaload, 1) := by decide +kernel
theorem dX4_figureAt_6 : decode cX4_figureAt 6 = .ok (.bipush 48, 2) := by decide +kernel
theorem dX4_figureAt_8 : decode cX4_figureAt 8 = .ok (.isub, 1) := by decide +kernel
theorem dX4_figureAt_9 : decode cX4_figureAt 9 = .ok (.ireturn, 1) := by decide +kernel
theorem dX4_numberAt_0 : decode cX4_numberAt 0 = .ok (.bipush 10, 2) := by decide +kernel
theorem dX4_numberAt_2 : decode cX4_numberAt 2 = .ok (.aload_n 0, 1) := by decide +kernel
theorem dX4_numberAt_3 : decode cX4_numberAt 3 = .ok (.iload_n 1, 1) := by decide +kernel
theorem dX4_numberAt_4 : decode cX4_numberAt 4 = .ok (.invokevirtual 29, 3) := by decide +kernel
theorem dX4_numberAt_7 : decode cX4_numberAt 7 = .ok (.imul, 1) := by decide +kernel
theorem dX4_numberAt_8 : decode cX4_numberAt 8 = .ok (.aload_n 0, 1) := by decide +kernel
theorem dX4_numberAt_9 : decode cX4_numberAt 9 = .ok (.iload_n 1, 1) := by decide +kernel
theorem dX4_numberAt_10 : decode cX4_numberAt 10 = .ok (.iconst 1, 1) := by decide +kernel
theorem dX4_numberAt_11 : decode cX4_numberAt 11 = .ok (.iadd, 1) := by decide +kernel
theorem dX4_numberAt_12 : decode cX4_numberAt 12 = .ok (.invokevirtual 29, 3) := by decide +kernel
theorem dX4_numberAt_15 : decode cX4_numberAt 15 = .ok (.iadd, 1) := by decide +kernel
theorem dX4_numberAt_16 : decode cX4_numberAt 16 = .ok (.ireturn, 1) := by decide +kernel
end
section
theorem dJ6_bitCount_0f7a4_0 : decode cJ6_bitCount_0f7a4 0 = .ok (.iload_n 0, 1) := by decide +kernel
theorem dJ6_bitCount_0f7a4_1 : decode cJ6_bitCount_0f7a4 1 = .ok (.iload_n 0, 1) := by decide +kernel
theorem dJ6_bitCount_0f7a4_2 : decode cJ6_bitCount_0f7a4 2 = .ok (.iconst 1, 1) := by decide +kernel
theorem dJ6_bitCount_0f7a4_3 : decode cJ6_bitCount_0f7a4 3 = .ok (.iushr, 1) := by decide +kernel
theorem dJ6_bitCount_0f7a4_4 : decode cJ6_bitCount_0f7a4 4 = .ok (.ldc_w 265, 3) := by decide +kernel
theorem dJ6_bitCount_0f7a4_7 : decode cJ6_bitCount_0f7a4 7 = .ok (.iand, 1) := by decide +kernel
theorem dJ6_bitCount_0f7a4_8 : decode cJ6_bitCount_0f7a4 8 = .ok (.isub, 1) := by decide +kernel
theorem dJ6_bitCount_0f7a4_9 : decode cJ6_bitCount_0f7a4 9 = .ok (.istore_n 0, 1) := by decide +kernel
theorem dJ6_bitCount_0f7a4_10 : decode cJ6_bitCount_0f7a4 10 = .ok (.iload_n 0, 1) := by decide +kernel
theorem dJ6_bitCount_0f7a4_11 : decode cJ6_bitCount_0f7a4 11 = .ok (.ldc_w 266, 3) := by decide +kernel
theorem dJ6_bitCount_0f7a4_14 : decode cJ6_bitCount_0f7a4 14 = .ok (.iand, 1) := by decide +kernel
theorem dJ6_bitCount_0f7a4_15 : decode cJ6_bitCount_0f7a4 15 = .ok (.iload_n 0, 1) := by decide +kernel
theorem dJ6_bitCount_0f7a4_16 : decode cJ6_bitCount_0f7a4 16 = .ok (.iconst 2, 1) := by decide +kernel
theorem dJ6_bitCount_0f7a4_17 : decode cJ6_bitCount_0f7a4 17 = .ok (.iushr, 1) := by decide +kernel
theorem dJ6_bitCount_0f7a4_18 : decode cJ6_bitCount_0f7a4 18 = .ok (.ldc_w 266, 3) := by decide +kernel
theorem dJ6_bitCount_0f7a4_21 : decode cJ6_bitCount_0f7a4 21 = .ok (.iand, 1) := by decide +kernel
theorem dJ6_bitCount_0f7a4_22 : decode cJ6_bitCount_0f7a4 22 = .ok (.iadd, 1) := by decide +kernel
theorem dJ6_bitCount_0f7a4_23 : decode cJ6_bitCount_0f7a4 23 = .ok (.istore_n 0, 1) := by decide +kernel
theorem dJ6_bitCount_0f7a4_24 : decode cJ6_bitCount_0f7a4 24 = .ok (.iload_n 0, 1) := by decide +kernel
theorem dJ6_bitCount_0f7a4_25 : decode cJ6_bitCount_0f7a4 25 = .ok (.iload_n 0, 1) := by decide +kernel
theorem dJ6_bitCount_0f7a4_26 : decode cJ6_bitCount_0f7a4 26 = .ok (.iconst 4, 1) := by decide +kernel
theorem dJ6_bitCount_0f7a4_27 : decode cJ6_bitCount_0f7a4 27 = .ok (.iushr, 1) := by decide +kernel
theorem dJ6_bitCount_0f7a4_28 : decode cJ6_bitCount_0f7a4 28 = .ok (.iadd, 1) := by decide +kernel
theorem dJ6_bitCount_0f7a4_29 : decode cJ6_bitCount_0f7a4 29 = .ok (.ldc_w 267, 3) := by decide +kernel
theorem dJ6_bitCount_0f7a4_32 : decode cJ6_bitCount_0f7a4 32 = .ok (.iand, 1) := by decide +kernel
theorem dJ6_bitCount_0f7a4_33 : decode cJ6_bitCount_0f7a4 33 = .ok (.istore_n 0, 1) := by decide +kernel
theorem dJ6_bitCount_0f7a4_34 : decode cJ6_bitCount_0f7a4 34 = .ok (.iload_n 0, 1) := by decide +kernel
theorem dJ6_bitCount_0f7a4_35 : decode cJ6_bitCount_0f7a4 35 = .ok (.iload_n 0, 1) := by decide +kernel
theorem dJ6_bitCount_0f7a4_36 : decode cJ6_bitCount_0f7a4 36 = .ok (.bipush 8, 2) := by decide +kernel
theorem dJ6_bitCount_0f7a4_38 : decode cJ6_bitCount_0f7a4 38 = .ok (.iushr, 1) := by decide +kernel
theorem dJ6_bitCount_0f7a4_39 : decode cJ6_bitCount_0f7a4 39 = .ok (.iadd, 1) := by decide +kernel
theorem dJ6_bitCount_0f7a4_40 : decode cJ6_bitCount_0f7a4 40 = .ok (.istore_n 0, 1) := by decide +kernel
theorem dJ6_bitCount_0f7a4_41 : decode cJ6_bitCount_0f7a4 41 = .ok (.iload_n 0, 1) := by decide +kernel
theorem dJ6_bitCount_0f7a4_42 : decode cJ6_bitCount_0f7a4 42 = .ok (.iload_n 0, 1) := by decide +kernel
theorem dJ6_bitCount_0f7a4_43 : decode cJ6_bitCount_0f7a4 43 = .ok (.bipush 16, 2) := by decide +kernel
theorem dJ6_bitCount_0f7a4_45 : decode cJ6_bitCount_0f7a4 45 = .ok (.iushr, 1) := by decide +kernel
theorem dJ6_bitCount_0f7a4_46 : decode cJ6_bitCount_0f7a4 46 = .ok (.iadd, 1) := by decide +kernel
theorem dJ6_bitCount_0f7a4_47 : decode cJ6_bitCount_0f7a4 47 = .ok (.istore_n 0, 1) := by decide +kernel
theorem dJ6_bitCount_0f7a4_48 : decode cJ6_bitCount_0f7a4 48 = .ok (.iload_n 0, 1) := by decide +kernel
theorem dJ6_bitCount_0f7a4_49 : decode cJ6_bitCount_0f7a4 49 = .ok (.bipush 63, 2) := by decide +kernel
theorem dJ6_bitCount_0f7a4_51 : decode cJ6_bitCount_0f7a4 51 = .ok (.iand, 1) := by decide +kernel
theorem dJ6_bitCount_0f7a4_52 : decode cJ6_bitCount_0f7a4 52 = .ok (.ireturn, 1) := by decide +kernel
theorem dJ9_abs_0f7a4_0 : decode cJ9_abs_0f7a4 0 = .ok (.iload_n 0, 1) := by decide +kernel
theorem dJ9_abs_0f7a4_1 : decode cJ9_abs_0f7a4 1 = .ok (.ifCond .ge 8, 3) := by decide +kernel
theorem dJ9_abs_0f7a4_4 : decode cJ9_abs_0f7a4 4 = .ok (.iload_n 0, 1) := by decide +kernel
theorem dJ9_abs_0f7a4_5 : decode cJ9_abs_0f7a4 5 = .ok (.ineg, 1) := by decide +kernel
theorem dJ9_abs_0f7a4_6 : decode cJ9_abs_0f7a4 6 = .ok (.goto 4, 3) := by decide +kernel
theorem dJ9_abs_0f7a4_9 : decode cJ9_abs_0f7a4 9 = .ok (.iload_n 0, 1) := by decide +kernel
theorem dJ9_abs_0f7a4_10 : decode cJ9_abs_0f7a4 10 = .ok (.ireturn, 1) := by decide +kernel
theorem dJ9_max_7cf53_0 : decode cJ9_max_7cf53 0 = .ok (.iload_n 0, 1) := by decide +kernel
theorem dJ9_max_7cf53_1 : decode cJ9_max_7cf53 1 = .ok (.iload_n 1, 1) := by decide +kernel
theorem dJ9_max_7cf53_2 : decode cJ9_max_7cf53 2 = .ok (.if_icmp .lt 7, 3) := by decide +kernel
theorem dJ9_max_7cf53_5 : decode cJ9_max_7cf53 5 = .ok (.iload_n 0, 1) := by decide +kernel
theorem dJ9_max_7cf53_6 : decode cJ9_max_7cf53 6 = .ok (.goto 4, 3) := by decide +kernel
theorem dJ9_max_7cf53_9 : decode cJ9_max_7cf53 9 = .ok (.iload_n 1, 1) := by decide +kernel
theorem dJ9_max_7cf53_10 : decode cJ9_max_7cf53 10 = .ok (.ireturn, 1) := by decide +kernel
theorem dJ9_min_7cf53_0 : decode cJ9_min_7cf53 0 = .ok (.iload_n 0, 1) := by decide +kernel
theorem dJ9_min_7cf53_1 : decode cJ9_min_7cf53 1 = .ok (.iload_n 1, 1) := by decide +kernel
theorem dJ9_min_7cf53_2 : decode cJ9_min_7cf53 2 = .ok (.if_icmp .gt 7, 3) := by decide +kernel
theorem dJ9_min_7cf53_5 : decode cJ9_min_7cf53 5 = .ok (.iload_n 0, 1) := by decide +kernel
theorem dJ9_min_7cf53_6 : decode cJ9_min_7cf53 6 = .ok (.goto 4, 3) := by decide +kernel
theorem dJ9_min_7cf53_9 : decode cJ9_min_7cf53 9 = .ok (.iload_n 1, 1) := by decide +kernel
theorem dJ9_min_7cf53_10 : decode cJ9_min_7cf53 10 = .ok (.ireturn, 1) := by decide +kernel
theorem dJ7_fill_53178_0 : decode cJ7_fill_53178 0 = .ok (.iconst 0, 1) := by decide +kernel
theorem dJ7_fill_53178_1 : decode cJ7_fill_53178 1 = .ok (.istore_n 2, 1) := by decide +kernel
theorem dJ7_fill_53178_2 : decode cJ7_fill_53178 2 = .ok (.aload_n 0, 1) := by decide +kernel
theorem dJ7_fill_53178_3 : decode cJ7_fill_53178 3 = .ok (.arraylength, 1) := by decide +kernel
theorem dJ7_fill_53178_4 : decode cJ7_fill_53178 4 = .ok (.istore_n 3, 1) := by decide +kernel
theorem dJ7_fill_53178_5 : decode cJ7_fill_53178 5 = .ok (.iload_n 2, 1) := by decide +kernel
theorem dJ7_fill_53178_6 : decode cJ7_fill_53178 6 = .ok (.iload_n 3, 1) := by decide +kernel
theorem dJ7_fill_53178_7 : decode cJ7_fill_53178 7 = .ok (.if_icmp .ge 13, 3) := by decide +kernel
theorem dJ7_fill_53178_10 : decode cJ7_fill_53178 10 = .ok (.aload_n 0, 1) := by decide +kernel
theorem dJ7_fill_53178_11 : decode cJ7_fill_53178 11 = .ok (.iload_n 2, 1) := by decide +kernel
theorem dJ7_fill_53178_12 : decode cJ7_fill_53178 12 = .ok (.iload_n 1, 1) := by decide +kernel
theorem dJ7_fill_53178_13 : decode cJ7_fill_53178 13 = .ok (.iastore, 1) := by decide +kernel
theorem dJ7_fill_53178_14 : decode cJ7_fill_53178 14 = .ok (.iinc 2 1, 3) := by decide +kernel
theorem dJ7_fill_53178_17 : decode cJ7_fill_53178 17 = .ok (.goto (-12), 3) := by decide +kernel
theorem dJ7_fill_53178_20 : decode cJ7_fill_53178 20 = .ok (.return_, 1) := by decide +kernel
end
section
theorem dX5_init_0 : decode cX5_init 0 = .ok (.aload_n 0, 1) := by decide +kernel
theorem dX5_init_1 : decode cX5_init 1 = .ok (.invokespecial 1, 3) := by decide +kernel
theorem dX5_init_4 : decode cX5_init 4 = .ok (.aload_n 0, 1) := by decide +kernel
theorem dX5_init_5 : decode cX5_init 5 = .ok (.new 7, 3) := by decide +kernel
theorem dX5_init_8 : decode cX5_init 8 = .ok (.dup, 1) := by decide +kernel
theorem dX5_init_9 : decode cX5_init 9 = .ok (.invokespecial 9, 3) := by decide +kernel
theorem dX5_init_12 : decode cX5_init 12 = .ok (.putfield 10, 3) := by decide +kernel
theorem dX5_init_15 : decode cX5_init 15 = .ok (.aload_n 0, 1) := by decide +kernel
theorem dX5_init_16 : decode cX5_init 16 = .ok (.new 16, 3) := by decide +kernel
theorem dX5_init_19 : decode cX5_init 19 = .ok (.dup, 1) := by decide +kernel
theorem dX5_init_20 : decode cX5_init 20 = .ok (.invokespecial 18, 3) := by decide +kernel
theorem dX5_init_23 : decode cX5_init 23 = .ok (.putfield 19, 3) := by decide +kernel
theorem dX5_init_26 : decode cX5_init 26 = .ok (.aload_n 0, 1) := by decide +kernel
theorem dX5_init_27 : decode cX5_init 27 = .ok (.new 23, 3) := by decide +kernel
theorem dX5_init_30 : decode cX5_init 30 = .ok (.dup, 1) := by decide +kernel
theorem dX5_init_31 : decode cX5_init 31 = .ok (.invokespecial 25, 3) := by decide +kernel
theorem dX5_init_34 : decode cX5_init 34 = .ok (.putfield 26, 3) := by decide +kernel
theorem dX5_init_37 : decode cX5_init 37 = .ok (.aload_n 0, 1) := by decide +kernel
theorem dX5_init_38 : decode cX5_init 38 = .ok (.new 30, 3) := by decide +kernel
theorem dX5_init_41 : decode cX5_init 41 = .ok (.dup, 1) := by decide +kernel
theorem dX5_init_42 : decode cX5_init 42 = .ok (.invokespecial 32, 3) := by decide +kernel
theorem dX5_init_45 : decode cX5_init 45 = .ok (.putfield 33, 3) := by decide +kernel
theorem dX5_init_48 : decode cX5_init 48 = .ok (.aload_n 0, 1) := by decide +kernel
theorem dX5_init_49 : decode cX5_init 49 = .ok (.iconst 2, 1) := by decide +kernel
theorem dX5_init_50 : decode cX5_init 50 = .ok (.anewarray 23, 3) := by decide +kernel
theorem dX5_init_53 : decode cX5_init 53 = .ok (.putfield 37, 3) := by decide +kernel
theorem dX5_init_56 : decode cX5_init 56 = .ok (.aload_n 0, 1) := by decide +kernel
theorem dX5_init_57 : decode cX5_init 57 = .ok (.iconst 2, 1) := by decide +kernel
theorem dX5_init_58 : decode cX5_init 58 = .ok (.newarray .boolean, 2) := by decide +kernel
theorem dX5_init_60 : decode cX5_init 60 = .ok (.putfield 41, 3) := by decide +kernel
theorem dX5_init_63 : decode cX5_init 63 = .ok (.aload_n 0, 1) := by decide +kernel
theorem dX5_init_64 : decode cX5_init 64 = .ok (.bipush 9, 2) := by decide +kernel
theorem dX5_init_66 : decode cX5_init 66 = .ok (.anewarray 23, 3) := by decide +kernel
theorem dX5_init_69 : decode cX5_init 69 = .ok (.putfield 45, 3) := by decide +kernel
theorem dX5_init_72 : decode cX5_init 72 = .ok (.aload_n 0, 1) := by decide +kernel
theorem dX5_init_73 : decode cX5_init 73 = .ok (.iconst 4, 1) := by decide +kernel
theorem dX5_init_74 : decode cX5_init 74 = .ok (.newarray .int, 2) := by decide +kernel
theorem dX5_init_76 : decode cX5_init 76 = .ok (.putfield 48, 3) := by decide +kernel
theorem dX5_init_79 : decode cX5_init 79 = .ok (.aload_n 0, 1) := by decide +kernel
theorem dX5_init_80 : decode cX5_init 80 = .ok (.iconst 4, 1) := by decide +kernel
theorem dX5_init_81 : decode cX5_init 81 = .ok (.newarray .int, 2) := by decide +kernel
theorem dX5_init_83 : decode cX5_init 83 = .ok (.putfield 52, 3) := by decide +kernel
theorem dX5_init_86 : decode cX5_init 86 = .ok (.aload_n 0, 1) := by decide +kernel
theorem dX5_init_87 : decode cX5_init 87 = .ok (.iconst 4, 1) := by decide +kernel
theorem dX5_init_88 : decode cX5_init 88 = .ok (.newarray .int, 2) := by decide +kernel
theorem dX5_init_90 : decode cX5_init 90 = .ok (.putfield 55, 3) := by decide +kernel
theorem dX5_init_93 : decode cX5_init 93 = .ok (.aload_n 0, 1) := by decide +kernel
theorem dX5_init_94 : decode cX5_init 94 = .ok (.iconst 0, 1) := by decide +kernel
theorem dX5_init_95 : decode cX5_init 95 = .ok (.putfield 58, 3) := by decide +kernel
theorem dX5_init_98 : decode cX5_init 98 = .ok (.aload_n 0, 1) := by decide +kernel
theorem dX5_init_99 : decode cX5_init 99 = .ok (.lconst 0, 1) := by decide +kernel
theorem dX5_init_100 : decode cX5_init 100 = .ok (.putfield 62, 3) := by decide +kernel
theorem dX5_init_103 : decode cX5_init 103 = .ok (.iconst 0, 1) := by decide +kernel
theorem dX5_init_104 : decode cX5_init 104 = .ok (.istore_n 1, 1) := by decide +kernel
theorem dX5_init_105 : decode cX5_init 105 = .ok (.iload_n 1, 1) := by decide +kernel
theorem dX5_init_106 : decode cX5_init 106 = .ok (.iconst 2, 1) := by decide +kernel
theorem dX5_init_107 : decode cX5_init 107 = .ok (.if_icmp .ge 22, 3) := by decide +kernel
theorem dX5_init_110 : decode cX5_init 110 = .ok (.aload_n 0, 1) := by decide +kernel
theorem dX5_init_111 : decode cX5_init 111 = .ok (.getfield 37, 3) := by decide +kernel
theorem dX5_init_114 : decode cX5_init 114 = .ok (.iload_n 1, 1) := by decide +kernel
theorem dX5_init_115 : decode cX5_init 115 = .ok (.new 23, 3) := by decide +kernel
theorem dX5_init_118 : decode cX5_init 118 = .ok (.dup, 1) := by decide +kernel
theorem dX5_init_119 : decode cX5_init 119 = .ok (.invokespecial 25, 3) := by decide +kernel
theorem dX5_init_122 : decode cX5_init 122 = .ok (.aastore, 1) := by decide +kernel
theorem dX5_init_123 : decode cX5_init 123 = .ok (.iinc 1 1, 3) := by decide +kernel
theorem dX5_init_126 : decode cX5_init 126 = .ok (.goto (-21), 3) := by decide +kernel
theorem dX5_init_129 : decode cX5_init 129 = .ok (.iconst 0, 1) := by decide +kernel
theorem dX5_init_130 : decode cX5_init 130 = .ok (.istore_n 1, 1) := by decide +kernel
theorem dX5_init_131 : decode cX5_init 131 = .ok (.iload_n 1, 1) := by decide +kernel
theorem dX5_init_132 : decode cX5_init 132 = .ok (.aload_n 0, 1) := by decide +kernel
theorem dX5_init_133 : decode cX5_init 133 = .ok (.getfield 45, 3) := by decide +kernel
theorem dX5_init_136 : decode cX5_init 136 = .ok (.arraylength, 1) := by decide +kernel
theorem dX5_init_137 : decode cX5_init 137 = .ok (.if_icmp .ge 22, 3) := by decide +kernel
theorem dX5_init_140 : decode cX5_init 140 = .ok (.aload_n 0, 1) := by decide +kernel
theorem dX5_init_141 : decode cX5_init 141 = .ok (.getfield 45, 3) := by decide +kernel
theorem dX5_init_144 : decode cX5_init 144 = .ok (.iload_n 1, 1) := by decide +kernel
theorem dX5_init_145 : decode cX5_init 145 = .ok (.new 23, 3) := by decide +kernel
theorem dX5_init_148 : decode cX5_init 148 = .ok (.dup, 1) := by decide +kernel
theorem dX5_init_149 : decode cX5_init 149 = .ok (.invokespecial 25, 3) := by decide +kernel
theorem dX5_init_152 : decode cX5_init 152 = .ok (.aastore, 1) := by decide +kernel
theorem dX5_init_153 : decode cX5_init 153 = .ok (.iinc 1 1, 3) := by decide +kernel
theorem dX5_init_156 : decode cX5_init 156 = .ok (.goto (-25), 3) := by decide +kernel
theorem dX5_init_159 : decode cX5_init 159 = .ok (.return_, 1) := by decide +kernel
theorem dX5_write_0 : decode cX5_write 0 = .ok (.iload_n 1, 1) := by decide +kernel
theorem dX5_write_1 : decode cX5_write 1 = .ok (.ifCond .lt 10, 3) := by decide +kernel
theorem dX5_write_4 : decode cX5_write 4 = .ok (.iload_n 1, 1) := by decide +kernel
theorem dX5_write_5 : decode cX5_write 5 = .ok (.sipush 255, 3) := by decide +kernel
theorem dX5_write_8 : decode cX5_write 8 = .ok (.if_icmp .le 6, 3) := by decide +kernel
theorem dX5_write_11 : decode cX5_write 11 = .ok (.bipush (-2), 2) := by decide +kernel
theorem dX5_write_13 : decode cX5_write 13 = .ok (.ireturn, 1) := by decide +kernel
theorem dX5_write_14 : decode cX5_write 14 = .ok (.aload_n 0, 1) := by decide +kernel
theorem dX5_write_15 : decode cX5_write 15 = .ok (.getfield 10, 3) := by decide +kernel
theorem dX5_write_18 : decode cX5_write 18 = .ok (.iload_n 1, 1) := by decide +kernel
theorem dX5_write_19 : decode cX5_write 19 = .ok (.invokevirtual 66, 3) := by decide +kernel
theorem dX5_write_22 : decode cX5_write 22 = .ok (.ifCond .eq 13, 3) := by decide +kernel
theorem dX5_write_25 : decode cX5_write 25 = .ok (.aload_n 0, 1) := by decide +kernel
theorem dX5_write_26 : decode cX5_write 26 = .ok (.getfield 10, 3) := by decide +kernel
theorem dX5_write_29 : decode cX5_write 29 = .ok (.getfield 70, 3) := by decide +kernel
theorem dX5_write_32 : decode cX5_write 32 = .ok (.goto 5, 3) := by decide +kernel
theorem dX5_write_35 : decode cX5_write 35 = .ok (.bipush (-4), 2) := by decide +kernel
theorem dX5_write_37 : decode cX5_write 37 = .ok (.ireturn, 1) := by decide +kernel
theorem dX5_wipe_0 : decode cX5_wipe 0 = .ok (.aload_n 0, 1) := by decide +kernel
theorem dX5_wipe_1 : decode cX5_wipe 1 = .ok (.getfield 10, 3) := by decide +kernel
theorem dX5_wipe_4 : decode cX5_wipe 4 = .ok (.getfield 70, 3) := by decide +kernel
theorem dX5_wipe_7 : decode cX5_wipe 7 = .ok (.istore_n 1, 1) := by decide +kernel
theorem dX5_wipe_8 : decode cX5_wipe 8 = .ok (.aload_n 0, 1) := by decide +kernel
theorem dX5_wipe_9 : decode cX5_wipe 9 = .ok (.getfield 10, 3) := by decide +kernel
theorem dX5_wipe_12 : decode cX5_wipe 12 = .ok (.iconst 0, 1) := by decide +kernel
theorem dX5_wipe_13 : decode cX5_wipe 13 = .ok (.putfield 70, 3) := by decide +kernel
theorem dX5_wipe_16 : decode cX5_wipe 16 = .ok (.iload_n 1, 1) := by decide +kernel
theorem dX5_wipe_17 : decode cX5_wipe 17 = .ok (.ireturn, 1) := by decide +kernel
theorem dX5_fault_0 : decode cX5_fault 0 = .ok (.aload_n 0, 1) := by decide +kernel
theorem dX5_fault_1 : decode cX5_fault 1 = .ok (.getfield 10, 3) := by decide +kernel
theorem dX5_fault_4 : decode cX5_fault 4 = .ok (.invokevirtual 73, 3) := by decide +kernel
theorem dX5_fault_7 : decode cX5_fault 7 = .ok (.ireturn, 1) := by decide +kernel
theorem dX5_station_0 : decode cX5_station 0 = .ok (.aload_n 0, 1) := by decide +kernel
theorem dX5_station_1 : decode cX5_station 1 = .ok (.getfield 10, 3) := by decide +kernel
theorem dX5_station_4 : decode cX5_station 4 = .ok (.invokevirtual 73, 3) := by decide +kernel
theorem dX5_station_7 : decode cX5_station 7 = .ok (.bipush (-9), 2) := by decide +kernel
theorem dX5_station_9 : decode cX5_station 9 = .ok (.if_icmp .eq 6, 3) := by decide +kernel
theorem dX5_station_12 : decode cX5_station 12 = .ok (.bipush (-3), 2) := by decide +kernel
theorem dX5_station_14 : decode cX5_station 14 = .ok (.ireturn, 1) := by decide +kernel
theorem dX5_station_15 : decode cX5_station 15 = .ok (.aload_n 0, 1) := by decide +kernel
theorem dX5_station_16 : decode cX5_station 16 = .ok (.getfield 19, 3) := by decide +kernel
theorem dX5_station_19 : decode cX5_station 19 = .ok (.aload_n 0, 1) := by decide +kernel
theorem dX5_station_20 : decode cX5_station 20 = .ok (.getfield 10, 3) := by decide +kernel
theorem dX5_station_23 : decode cX5_station 23 = .ok (.invokevirtual 77, 3) := by decide +kernel
theorem dX5_station_26 : decode cX5_station 26 = .ok (.aload_n 0, 1) := by decide +kernel
theorem dX5_station_27 : decode cX5_station 27 = .ok (.getfield 26, 3) := by decide +kernel
theorem dX5_station_30 : decode cX5_station 30 = .ok (.invokevirtual 81, 3) := by decide +kernel
theorem dX5_station_33 : decode cX5_station 33 = .ok (.aload_n 0, 1) := by decide +kernel
theorem dX5_station_34 : decode cX5_station 34 = .ok (.getfield 33, 3) := by decide +kernel
theorem dX5_station_37 : decode cX5_station 37 = .ok (.invokevirtual 84, 3) := by decide +kernel
theorem dX5_station_40 : decode cX5_station 40 = .ok (.iconst 0, 1) := by decide +kernel
theorem dX5_station_41 : decode cX5_station 41 = .ok (.istore_n 1, 1) := by decide +kernel
theorem dX5_station_42 : decode cX5_station 42 = .ok (.iload_n 1, 1) := by decide +kernel
theorem dX5_station_43 : decode cX5_station 43 = .ok (.iconst 2, 1) := by decide +kernel
theorem dX5_station_44 : decode cX5_station 44 = .ok (.if_icmp .ge 16, 3) := by decide +kernel
theorem dX5_station_47 : decode cX5_station 47 = .ok (.aload_n 0, 1) := by decide +kernel
theorem dX5_station_48 : decode cX5_station 48 = .ok (.getfield 41, 3) := by decide +kernel
theorem dX5_station_51 : decode cX5_station 51 = .ok (.iload_n 1, 1) := by decide +kernel
theorem dX5_station_52 : decode cX5_station 52 = .ok (.iconst 0, 1) := by decide +kernel
theorem dX5_station_53 : decode cX5_station 53 = .ok (.bastore, 1) := by decide +kernel
theorem dX5_station_54 : decode cX5_station 54 = .ok (.iinc 1 1, 3) := by decide +kernel
theorem dX5_station_57 : decode cX5_station 57 = .ok (.goto (-15), 3) := by decide +kernel
theorem dX5_station_60 : decode cX5_station 60 = .ok (.aload_n 0, 1) := by decide +kernel
theorem dX5_station_61 : decode cX5_station 61 = .ok (.getfield 19, 3) := by decide +kernel
theorem dX5_station_64 : decode cX5_station 64 = .ok (.getfield 87, 3) := by decide +kernel
theorem dX5_station_67 : decode cX5_station 67 = .ok (.ireturn, 1) := by decide +kernel
theorem dX5_about_0 : decode cX5_about 0 = .ok (.iload_n 1, 1) := by decide +kernel
theorem dX5_about_1 : decode cX5_about 1 = .ok (.tableswitch 148 0 17 #[87, 95, 103, 148, 148, 148, 148, 148, 148, 148, 148, 148, 148, 111, 119, 124, 132, 140], 87) := by decide +kernel
theorem dX5_about_88 : decode cX5_about 88 = .ok (.aload_n 0, 1) := by decide +kernel
theorem dX5_about_89 : decode cX5_about 89 = .ok (.getfield 19, 3) := by decide +kernel
theorem dX5_about_92 : decode cX5_about 92 = .ok (.getfield 87, 3) := by decide +kernel
theorem dX5_about_95 : decode cX5_about 95 = .ok (.ireturn, 1) := by decide +kernel
theorem dX5_about_96 : decode cX5_about 96 = .ok (.aload_n 0, 1) := by decide +kernel
theorem dX5_about_97 : decode cX5_about 97 = .ok (.getfield 19, 3) := by decide +kernel
theorem dX5_about_100 : decode cX5_about 100 = .ok (.getfield 90, 3) := by decide +kernel
theorem dX5_about_103 : decode cX5_about 103 = .ok (.ireturn, 1) := by decide +kernel
theorem dX5_about_104 : decode cX5_about 104 = .ok (.aload_n 0, 1) := by decide +kernel
theorem dX5_about_105 : decode cX5_about 105 = .ok (.getfield 19, 3) := by decide +kernel
theorem dX5_about_108 : decode cX5_about 108 = .ok (.getfield 93, 3) := by decide +kernel
theorem dX5_about_111 : decode cX5_about 111 = .ok (.ireturn, 1) := by decide +kernel
theorem dX5_about_112 : decode cX5_about 112 = .ok (.aload_n 0, 1) := by decide +kernel
theorem dX5_about_113 : decode cX5_about 113 = .ok (.getfield 33, 3) := by decide +kernel
theorem dX5_about_116 : decode cX5_about 116 = .ok (.getfield 96, 3) := by decide +kernel
theorem dX5_about_119 : decode cX5_about 119 = .ok (.ireturn, 1) := by decide +kernel
theorem dX5_about_120 : decode cX5_about 120 = .ok (.aload_n 0, 1) := by decide +kernel
theorem dX5_about_121 : decode cX5_about 121 = .ok (.getfield 58, 3) := by decide +kernel
theorem dX5_about_124 : decode cX5_about 124 = .ok (.ireturn, 1) := by decide +kernel
theorem dX5_about_125 : decode cX5_about 125 = .ok (.aload_n 0, 1) := by decide +kernel
theorem dX5_about_126 : decode cX5_about 126 = .ok (.getfield 10, 3) := by decide +kernel
theorem dX5_about_129 : decode cX5_about 129 = .ok (.getfield 70, 3) := by decide +kernel
theorem dX5_about_132 : decode cX5_about 132 = .ok (.ireturn, 1) := by decide +kernel
theorem dX5_about_133 : decode cX5_about 133 = .ok (.aload_n 0, 1) := by decide +kernel
theorem dX5_about_134 : decode cX5_about 134 = .ok (.getfield 19, 3) := by decide +kernel
theorem dX5_about_137 : decode cX5_about 137 = .ok (.getfield 99, 3) := by decide +kernel
theorem dX5_about_140 : decode cX5_about 140 = .ok (.ireturn, 1) := by decide +kernel
theorem dX5_about_141 : decode cX5_about 141 = .ok (.aload_n 0, 1) := by decide +kernel
theorem dX5_about_142 : decode cX5_about 142 = .ok (.getfield 19, 3) := by decide +kernel
theorem dX5_about_145 : decode cX5_about 145 = .ok (.getfield 102, 3) := by decide +kernel
theorem dX5_about_148 : decode cX5_about 148 = .ok (.ireturn, 1) := by decide +kernel
theorem dX5_about_149 : decode cX5_about 149 = .ok (.aload_n 0, 1) := by decide +kernel
theorem dX5_about_150 : decode cX5_about 150 = .ok (.getfield 26, 3) := by decide +kernel
theorem dX5_about_153 : decode cX5_about 153 = .ok (.iload_n 1, 1) := by decide +kernel
theorem dX5_about_154 : decode cX5_about 154 = .ok (.invokevirtual 105, 3) := by decide +kernel
theorem dX5_about_157 : decode cX5_about 157 = .ok (.ireturn, 1) := by decide +kernel
theorem dX5_offset_0 : decode cX5_offset 0 = .ok (.iload_n 1, 1) := by decide +kernel
theorem dX5_offset_1 : decode cX5_offset 1 = .ok (.invokestatic 109, 3) := by decide +kernel
theorem dX5_offset_4 : decode cX5_offset 4 = .ok (.ifCond .eq 15, 3) := by decide +kernel
theorem dX5_offset_7 : decode cX5_offset 7 = .ok (.aload_n 0, 1) := by decide +kernel
theorem dX5_offset_8 : decode cX5_offset 8 = .ok (.getfield 19, 3) := by decide +kernel
theorem dX5_offset_11 : decode cX5_offset 11 = .ok (.getfield 112, 3) := by decide +kernel
theorem dX5_offset_14 : decode cX5_offset 14 = .ok (.iload_n 1, 1) := by decide +kernel
theorem dX5_offset_15 : decode cX5_offset 15 = .ok (.iaload, 1) := by decide +kernel
theorem dX5_offset_16 : decode cX5_offset 16 = .ok (.goto 4, 3) := by decide +kernel
theorem dX5_offset_19 : decode cX5_offset 19 = .ok (.iconst (-1), 1) := by decide +kernel
theorem dX5_offset_20 : decode cX5_offset 20 = .ok (.ireturn, 1) := by decide +kernel
theorem dX5_told_0 : decode cX5_told 0 = .ok (.iload_n 1, 1) := by decide +kernel
theorem dX5_told_1 : decode cX5_told 1 = .ok (.tableswitch 123 0 6 #[43, 54, 65, 76, 87, 98, 112], 43) := by decide +kernel
theorem dX5_told_44 : decode cX5_told 44 = .ok (.aload_n 0, 1) := by decide +kernel
theorem dX5_told_45 : decode cX5_told 45 = .ok (.getfield 26, 3) := by decide +kernel
theorem dX5_told_48 : decode cX5_told 48 = .ok (.getfield 115, 3) := by decide +kernel
theorem dX5_told_51 : decode cX5_told 51 = .ok (.getfield 119, 3) := by decide +kernel
theorem dX5_told_54 : decode cX5_told 54 = .ok (.ireturn, 1) := by decide +kernel
theorem dX5_told_55 : decode cX5_told 55 = .ok (.aload_n 0, 1) := by decide +kernel
theorem dX5_told_56 : decode cX5_told 56 = .ok (.getfield 26, 3) := by decide +kernel
theorem dX5_told_59 : decode cX5_told 59 = .ok (.getfield 115, 3) := by decide +kernel
theorem dX5_told_62 : decode cX5_told 62 = .ok (.getfield 124, 3) := by decide +kernel
theorem dX5_told_65 : decode cX5_told 65 = .ok (.ireturn, 1) := by decide +kernel
theorem dX5_told_66 : decode cX5_told 66 = .ok (.aload_n 0, 1) := by decide +kernel
theorem dX5_told_67 : decode cX5_told 67 = .ok (.getfield 26, 3) := by decide +kernel
theorem dX5_told_70 : decode cX5_told 70 = .ok (.getfield 115, 3) := by decide +kernel
theorem dX5_told_73 : decode cX5_told 73 = .ok (.getfield 127, 3) := by decide +kernel
theorem dX5_told_76 : decode cX5_told 76 = .ok (.ireturn, 1) := by decide +kernel
theorem dX5_told_77 : decode cX5_told 77 = .ok (.aload_n 0, 1) := by decide +kernel
theorem dX5_told_78 : decode cX5_told 78 = .ok (.getfield 26, 3) := by decide +kernel
theorem dX5_told_81 : decode cX5_told 81 = .ok (.getfield 115, 3) := by decide +kernel
theorem dX5_told_84 : decode cX5_told 84 = .ok (.getfield 130, 3) := by decide +kernel
theorem dX5_told_87 : decode cX5_told 87 = .ok (.ireturn, 1) := by decide +kernel
theorem dX5_told_88 : decode cX5_told 88 = .ok (.aload_n 0, 1) := by decide +kernel
theorem dX5_told_89 : decode cX5_told 89 = .ok (.getfield 26, 3) := by decide +kernel
theorem dX5_told_92 : decode cX5_told 92 = .ok (.getfield 115, 3) := by decide +kernel
theorem dX5_told_95 : decode cX5_told 95 = .ok (.getfield 133, 3) := by decide +kernel
theorem dX5_told_98 : decode cX5_told 98 = .ok (.ireturn, 1) := by decide +kernel
theorem dX5_told_99 : decode cX5_told 99 = .ok (.aload_n 0, 1) := by decide +kernel
theorem dX5_told_100 : decode cX5_told 100 = .ok (.getfield 26, 3) := by decide +kernel
theorem dX5_told_103 : decode cX5_told 103 = .ok (.getfield 115, 3) := by decide +kernel
theorem dX5_told_106 : decode cX5_told 106 = .ok (.getfield 136, 3) := by decide +kernel
theorem dX5_told_109 : decode cX5_told 109 = .ok (.invokestatic 139, 3) := by decide +kernel
theorem dX5_told_112 : decode cX5_told 112 = .ok (.ireturn, 1) := by decide +kernel
theorem dX5_told_113 : decode cX5_told 113 = .ok (.aload_n 0, 1) := by decide +kernel
theorem dX5_told_114 : decode cX5_told 114 = .ok (.getfield 26, 3) := by decide +kernel
theorem dX5_told_117 : decode cX5_told 117 = .ok (.getfield 143, 3) := by decide +kernel
theorem dX5_told_120 : decode cX5_told 120 = .ok (.invokestatic 139, 3) := by decide +kernel
theorem dX5_told_123 : decode cX5_told 123 = .ok (.ireturn, 1) := by decide +kernel
theorem dX5_told_124 : decode cX5_told 124 = .ok (.bipush (-2), 2) := by decide +kernel
theorem dX5_told_126 : decode cX5_told 126 = .ok (.ireturn, 1) := by decide +kernel
theorem dX5_part_0 : decode cX5_part 0 = .ok (.iload_n 1, 1) := by decide +kernel
theorem dX5_part_1 : decode cX5_part 1 = .ok (.invokestatic 109, 3) := by decide +kernel
theorem dX5_part_4 : decode cX5_part 4 = .ok (.ifCond .eq 15, 3) := by decide +kernel
theorem dX5_part_7 : decode cX5_part 7 = .ok (.aload_n 0, 1) := by decide +kernel
theorem dX5_part_8 : decode cX5_part 8 = .ok (.getfield 26, 3) := by decide +kernel
theorem dX5_part_11 : decode cX5_part 11 = .ok (.getfield 143, 3) := by decide +kernel
theorem dX5_part_14 : decode cX5_part 14 = .ok (.iload_n 1, 1) := by decide +kernel
theorem dX5_part_15 : decode cX5_part 15 = .ok (.iaload, 1) := by decide +kernel
theorem dX5_part_16 : decode cX5_part 16 = .ok (.goto 4, 3) := by decide +kernel
theorem dX5_part_19 : decode cX5_part 19 = .ok (.iconst (-1), 1) := by decide +kernel
theorem dX5_part_20 : decode cX5_part 20 = .ok (.ireturn, 1) := by decide +kernel
theorem dX5_name_0 : decode cX5_name 0 = .ok (.iload_n 1, 1) := by decide +kernel
theorem dX5_name_1 : decode cX5_name 1 = .ok (.invokestatic 146, 3) := by decide +kernel
theorem dX5_name_4 : decode cX5_name 4 = .ok (.ifCond .ne 5, 3) := by decide +kernel
theorem dX5_name_7 : decode cX5_name 7 = .ok (.iconst (-1), 1) := by decide +kernel
theorem dX5_name_8 : decode cX5_name 8 = .ok (.ireturn, 1) := by decide +kernel
theorem dX5_name_9 : decode cX5_name 9 = .ok (.iload_n 2, 1) := by decide +kernel
theorem dX5_name_10 : decode cX5_name 10 = .ok (.ifCond .eq 18, 3) := by decide +kernel
theorem dX5_name_13 : decode cX5_name 13 = .ok (.aload_n 0, 1) := by decide +kernel
theorem dX5_name_14 : decode cX5_name 14 = .ok (.getfield 26, 3) := by decide +kernel
theorem dX5_name_17 : decode cX5_name 17 = .ok (.getfield 115, 3) := by decide +kernel
theorem dX5_name_20 : decode cX5_name 20 = .ok (.getfield 149, 3) := by decide +kernel
theorem dX5_name_23 : decode cX5_name 23 = .ok (.iload_n 1, 1) := by decide +kernel
theorem dX5_name_24 : decode cX5_name 24 = .ok (.iaload, 1) := by decide +kernel
theorem dX5_name_25 : decode cX5_name 25 = .ok (.goto 15, 3) := by decide +kernel
theorem dX5_name_28 : decode cX5_name 28 = .ok (.aload_n 0, 1) := by decide +kernel
theorem dX5_name_29 : decode cX5_name 29 = .ok (.getfield 26, 3) := by decide +kernel
theorem dX5_name_32 : decode cX5_name 32 = .ok (.getfield 115, 3) := by decide +kernel
theorem dX5_name_35 : decode cX5_name 35 = .ok (.getfield 136, 3) := by decide +kernel
theorem dX5_name_38 : decode cX5_name 38 = .ok (.iload_n 1, 1) := by decide +kernel
theorem dX5_name_39 : decode cX5_name 39 = .ok (.iaload, 1) := by decide +kernel
theorem dX5_name_40 : decode cX5_name 40 = .ok (.ireturn, 1) := by decide +kernel
theorem dX5_list_0 : decode cX5_list 0 = .ok (.aload_n 0, 1) := by decide +kernel
theorem dX5_list_1 : decode cX5_list 1 = .ok (.getfield 26, 3) := by decide +kernel
theorem dX5_list_4 : decode cX5_list 4 = .ok (.getfield 115, 3) := by decide +kernel
theorem dX5_list_7 : decode cX5_list 7 = .ok (.iload_n 1, 1) := by decide +kernel
theorem dX5_list_8 : decode cX5_list 8 = .ok (.invokevirtual 152, 3) := by decide +kernel
theorem dX5_list_11 : decode cX5_list 11 = .ok (.istore_n 3, 1) := by decide +kernel
theorem dX5_list_12 : decode cX5_list 12 = .ok (.iload_n 3, 1) := by decide +kernel
theorem dX5_list_13 : decode cX5_list 13 = .ok (.ifCond .ge 6, 3) := by decide +kernel
theorem dX5_list_16 : decode cX5_list 16 = .ok (.bipush (-9), 2) := by decide +kernel
theorem dX5_list_18 : decode cX5_list 18 = .ok (.ireturn, 1) := by decide +kernel
theorem dX5_list_19 : decode cX5_list 19 = .ok (.iload_n 2, 1) := by decide +kernel
theorem dX5_list_20 : decode cX5_list 20 = .ok (.ifCond .eq 18, 3) := by decide +kernel
theorem dX5_list_23 : decode cX5_list 23 = .ok (.aload_n 0, 1) := by decide +kernel
theorem dX5_list_24 : decode cX5_list 24 = .ok (.getfield 26, 3) := by decide +kernel
theorem dX5_list_27 : decode cX5_list 27 = .ok (.getfield 115, 3) := by decide +kernel
theorem dX5_list_30 : decode cX5_list 30 = .ok (.getfield 155, 3) := by decide +kernel
theorem dX5_list_33 : decode cX5_list 33 = .ok (.iload_n 3, 1) := by decide +kernel
theorem dX5_list_34 : decode cX5_list 34 = .ok (.iaload, 1) := by decide +kernel
theorem dX5_list_35 : decode cX5_list 35 = .ok (.goto 15, 3) := by decide +kernel
theorem dX5_list_38 : decode cX5_list 38 = .ok (.aload_n 0, 1) := by decide +kernel
theorem dX5_list_39 : decode cX5_list 39 = .ok (.getfield 26, 3) := by decide +kernel
theorem dX5_list_42 : decode cX5_list 42 = .ok (.getfield 115, 3) := by decide +kernel
theorem dX5_list_45 : decode cX5_list 45 = .ok (.getfield 158, 3) := by decide +kernel
theorem dX5_list_48 : decode cX5_list 48 = .ok (.iload_n 3, 1) := by decide +kernel
theorem dX5_list_49 : decode cX5_list 49 = .ok (.iaload, 1) := by decide +kernel
theorem dX5_list_50 : decode cX5_list 50 = .ok (.ireturn, 1) := by decide +kernel
theorem dX5_word_0 : decode cX5_word 0 = .ok (.iload_n 1, 1) := by decide +kernel
theorem dX5_word_1 : decode cX5_word 1 = .ok (.invokestatic 109, 3) := by decide +kernel
theorem dX5_word_4 : decode cX5_word 4 = .ok (.ifCond .ne 5, 3) := by decide +kernel
theorem dX5_word_7 : decode cX5_word 7 = .ok (.iconst (-1), 1) := by decide +kernel
theorem dX5_word_8 : decode cX5_word 8 = .ok (.ireturn, 1) := by decide +kernel
theorem dX5_word_9 : decode cX5_word 9 = .ok (.iload_n 2, 1) := by decide +kernel
theorem dX5_word_10 : decode cX5_word 10 = .ok (.invokestatic 161, 3) := by decide +kernel
theorem dX5_word_13 : decode cX5_word 13 = .ok (.ifCond .eq 15, 3) := by decide +kernel
theorem dX5_word_16 : decode cX5_word 16 = .ok (.aload_n 0, 1) := by decide +kernel
theorem dX5_word_17 : decode cX5_word 17 = .ok (.getfield 19, 3) := by decide +kernel
theorem dX5_word_20 : decode cX5_word 20 = .ok (.iload_n 1, 1) := by decide +kernel
theorem dX5_word_21 : decode cX5_word 21 = .ok (.iload_n 2, 1) := by decide +kernel
theorem dX5_word_22 : decode cX5_word 22 = .ok (.invokevirtual 164, 3) := by decide +kernel
theorem dX5_word_25 : decode cX5_word 25 = .ok (.goto 5, 3) := by decide +kernel
theorem dX5_word_28 : decode cX5_word 28 = .ok (.bipush (-2), 2) := by decide +kernel
theorem dX5_word_30 : decode cX5_word 30 = .ok (.ireturn, 1) := by decide +kernel
theorem dX5_rest_0 : decode cX5_rest 0 = .ok (.iload_n 1, 1) := by decide +kernel
theorem dX5_rest_1 : decode cX5_rest 1 = .ok (.invokestatic 109, 3) := by decide +kernel
theorem dX5_rest_4 : decode cX5_rest 4 = .ok (.ifCond .ne 5, 3) := by decide +kernel
theorem dX5_rest_7 : decode cX5_rest 7 = .ok (.iconst (-1), 1) := by decide +kernel
theorem dX5_rest_8 : decode cX5_rest 8 = .ok (.ireturn, 1) := by decide +kernel
theorem dX5_rest_9 : decode cX5_rest 9 = .ok (.iload_n 2, 1) := by decide +kernel
theorem dX5_rest_10 : decode cX5_rest 10 = .ok (.invokestatic 168, 3) := by decide +kernel
theorem dX5_rest_13 : decode cX5_rest 13 = .ok (.ifCond .eq 15, 3) := by decide +kernel
theorem dX5_rest_16 : decode cX5_rest 16 = .ok (.aload_n 0, 1) := by decide +kernel
theorem dX5_rest_17 : decode cX5_rest 17 = .ok (.getfield 19, 3) := by decide +kernel
theorem dX5_rest_20 : decode cX5_rest 20 = .ok (.iload_n 1, 1) := by decide +kernel
theorem dX5_rest_21 : decode cX5_rest 21 = .ok (.iload_n 2, 1) := by decide +kernel
theorem dX5_rest_22 : decode cX5_rest 22 = .ok (.invokevirtual 171, 3) := by decide +kernel
theorem dX5_rest_25 : decode cX5_rest 25 = .ok (.goto 5, 3) := by decide +kernel
theorem dX5_rest_28 : decode cX5_rest 28 = .ok (.bipush (-2), 2) := by decide +kernel
theorem dX5_rest_30 : decode cX5_rest 30 = .ok (.ireturn, 1) := by decide +kernel
theorem dX5_mended_0 : decode cX5_mended 0 = .ok (.iload_n 1, 1) := by decide +kernel
theorem dX5_mended_1 : decode cX5_mended 1 = .ok (.invokestatic 109, 3) := by decide +kernel
theorem dX5_mended_4 : decode cX5_mended 4 = .ok (.ifCond .ne 5, 3) := by decide +kernel
theorem dX5_mended_7 : decode cX5_mended 7 = .ok (.iconst (-1), 1) := by decide +kernel
theorem dX5_mended_8 : decode cX5_mended 8 = .ok (.ireturn, 1) := by decide +kernel
theorem dX5_mended_9 : decode cX5_mended 9 = .ok (.iload_n 2, 1) := by decide +kernel
theorem dX5_mended_10 : decode cX5_mended 10 = .ok (.invokestatic 168, 3) := by decide +kernel
theorem dX5_mended_13 : decode cX5_mended 13 = .ok (.ifCond .ne 6, 3) := by decide +kernel
theorem dX5_mended_16 : decode cX5_mended 16 = .ok (.bipush (-2), 2) := by decide +kernel
theorem dX5_mended_18 : decode cX5_mended 18 = .ok (.ireturn, 1) := by decide +kernel
theorem dX5_mended_19 : decode cX5_mended 19 = .ok (.aload_n 0, 1) := by decide +kernel
theorem dX5_mended_20 : decode cX5_mended 20 = .ok (.getfield 19, 3) := by decide +kernel
theorem dX5_mended_23 : decode cX5_mended 23 = .ok (.iload_n 1, 1) := by decide +kernel
theorem dX5_mended_24 : decode cX5_mended 24 = .ok (.iload_n 2, 1) := by decide +kernel
theorem dX5_mended_25 : decode cX5_mended 25 = .ok (.invokevirtual 174, 3) := by decide +kernel
theorem dX5_mended_28 : decode cX5_mended 28 = .ok (.istore_n 3, 1) := by decide +kernel
theorem dX5_mended_29 : decode cX5_mended 29 = .ok (.iload_n 3, 1) := by decide +kernel
theorem dX5_mended_30 : decode cX5_mended 30 = .ok (.bipush (-9), 2) := by decide +kernel
theorem dX5_mended_32 : decode cX5_mended 32 = .ok (.if_icmp .ne 8, 3) := by decide +kernel
theorem dX5_mended_35 : decode cX5_mended 35 = .ok (.bipush (-9), 2) := by decide +kernel
theorem dX5_mended_37 : decode cX5_mended 37 = .ok (.goto 7, 3) := by decide +kernel
theorem dX5_mended_40 : decode cX5_mended 40 = .ok (.iload_n 3, 1) := by decide +kernel
theorem dX5_mended_41 : decode cX5_mended 41 = .ok (.bipush 6, 2) := by decide +kernel
theorem dX5_mended_43 : decode cX5_mended 43 = .ok (.ishr, 1) := by decide +kernel
theorem dX5_mended_44 : decode cX5_mended 44 = .ok (.ireturn, 1) := by decide +kernel
theorem dX5_distance_0 : decode cX5_distance 0 = .ok (.bipush 14, 2) := by decide +kernel
theorem dX5_distance_2 : decode cX5_distance 2 = .ok (.istore_n 1, 1) := by decide +kernel
theorem dX5_distance_3 : decode cX5_distance 3 = .ok (.iconst 1, 1) := by decide +kernel
theorem dX5_distance_4 : decode cX5_distance 4 = .ok (.istore_n 2, 1) := by decide +kernel
theorem dX5_distance_5 : decode cX5_distance 5 = .ok (.iload_n 2, 1) := by decide +kernel
theorem dX5_distance_6 : decode cX5_distance 6 = .ok (.sipush 256, 3) := by decide +kernel
theorem dX5_distance_9 : decode cX5_distance 9 = .ok (.if_icmp .ge 25, 3) := by decide +kernel
theorem dX5_distance_12 : decode cX5_distance 12 = .ok (.iload_n 1, 1) := by decide +kernel
theorem dX5_distance_13 : decode cX5_distance 13 = .ok (.aload_n 0, 1) := by decide +kernel
theorem dX5_distance_14 : decode cX5_distance 14 = .ok (.getfield 19, 3) := by decide +kernel
theorem dX5_distance_17 : decode cX5_distance 17 = .ok (.iload_n 2, 1) := by decide +kernel
theorem dX5_distance_18 : decode cX5_distance 18 = .ok (.invokevirtual 177, 3) := by decide +kernel
theorem dX5_distance_21 : decode cX5_distance 21 = .ok (.invokestatic 180, 3) := by decide +kernel
theorem dX5_distance_24 : decode cX5_distance 24 = .ok (.invokestatic 185, 3) := by decide +kernel
theorem dX5_distance_27 : decode cX5_distance 27 = .ok (.istore_n 1, 1) := by decide +kernel
theorem dX5_distance_28 : decode cX5_distance 28 = .ok (.iinc 2 1, 3) := by decide +kernel
theorem dX5_distance_31 : decode cX5_distance 31 = .ok (.goto (-26), 3) := by decide +kernel
theorem dX5_distance_34 : decode cX5_distance 34 = .ok (.iload_n 1, 1) := by decide +kernel
theorem dX5_distance_35 : decode cX5_distance 35 = .ok (.ireturn, 1) := by decide +kernel
theorem dX5_flips_0 : decode cX5_flips 0 = .ok (.iload_n 1, 1) := by decide +kernel
theorem dX5_flips_1 : decode cX5_flips 1 = .ok (.ifCond .lt 17, 3) := by decide +kernel
theorem dX5_flips_4 : decode cX5_flips 4 = .ok (.iload_n 1, 1) := by decide +kernel
theorem dX5_flips_5 : decode cX5_flips 5 = .ok (.iconst 4, 1) := by decide +kernel
theorem dX5_flips_6 : decode cX5_flips 6 = .ok (.if_icmp .gt 12, 3) := by decide +kernel
theorem dX5_flips_9 : decode cX5_flips 9 = .ok (.iload_n 2, 1) := by decide +kernel
theorem dX5_flips_10 : decode cX5_flips 10 = .ok (.ifCond .lt 8, 3) := by decide +kernel
theorem dX5_flips_13 : decode cX5_flips 13 = .ok (.iload_n 2, 1) := by decide +kernel
theorem dX5_flips_14 : decode cX5_flips 14 = .ok (.iconst 3, 1) := by decide +kernel
theorem dX5_flips_15 : decode cX5_flips 15 = .ok (.if_icmp .le 6, 3) := by decide +kernel
theorem dX5_flips_18 : decode cX5_flips 18 = .ok (.bipush (-2), 2) := by decide +kernel
theorem dX5_flips_20 : decode cX5_flips 20 = .ok (.ireturn, 1) := by decide +kernel
theorem dX5_flips_21 : decode cX5_flips 21 = .ok (.aload_n 0, 1) := by decide +kernel
theorem dX5_flips_22 : decode cX5_flips 22 = .ok (.getfield 19, 3) := by decide +kernel
theorem dX5_flips_25 : decode cX5_flips 25 = .ok (.iload_n 2, 1) := by decide +kernel
theorem dX5_flips_26 : decode cX5_flips 26 = .ok (.iload_n 1, 1) := by decide +kernel
theorem dX5_flips_27 : decode cX5_flips 27 = .ok (.iconst 0, 1) := by decide +kernel
theorem dX5_flips_28 : decode cX5_flips 28 = .ok (.iconst 0, 1) := by decide +kernel
theorem dX5_flips_29 : decode cX5_flips 29 = .ok (.invokestatic 190, 3) := by decide +kernel
theorem dX5_flips_32 : decode cX5_flips 32 = .ok (.ireturn, 1) := by decide +kernel
theorem dX5_slips_0 : decode cX5_slips 0 = .ok (.iload_n 1, 1) := by decide +kernel
theorem dX5_slips_1 : decode cX5_slips 1 = .ok (.invokestatic 109, 3) := by decide +kernel
theorem dX5_slips_4 : decode cX5_slips 4 = .ok (.ifCond .ne 5, 3) := by decide +kernel
theorem dX5_slips_7 : decode cX5_slips 7 = .ok (.iconst (-1), 1) := by decide +kernel
theorem dX5_slips_8 : decode cX5_slips 8 = .ok (.ireturn, 1) := by decide +kernel
theorem dX5_slips_9 : decode cX5_slips 9 = .ok (.iload_n 2, 1) := by decide +kernel
theorem dX5_slips_10 : decode cX5_slips 10 = .ok (.invokestatic 161, 3) := by decide +kernel
theorem dX5_slips_13 : decode cX5_slips 13 = .ok (.ifCond .eq 10, 3) := by decide +kernel
theorem dX5_slips_16 : decode cX5_slips 16 = .ok (.iload_n 3, 1) := by decide +kernel
theorem dX5_slips_17 : decode cX5_slips 17 = .ok (.invokestatic 161, 3) := by decide +kernel
theorem dX5_slips_20 : decode cX5_slips 20 = .ok (.ifCond .ne 6, 3) := by decide +kernel
theorem dX5_slips_23 : decode cX5_slips 23 = .ok (.bipush (-2), 2) := by decide +kernel
theorem dX5_slips_25 : decode cX5_slips 25 = .ok (.ireturn, 1) := by decide +kernel
theorem dX5_slips_26 : decode cX5_slips 26 = .ok (.aload_n 0, 1) := by decide +kernel
theorem dX5_slips_27 : decode cX5_slips 27 = .ok (.getfield 19, 3) := by decide +kernel
theorem dX5_slips_30 : decode cX5_slips 30 = .ok (.iload_n 1, 1) := by decide +kernel
theorem dX5_slips_31 : decode cX5_slips 31 = .ok (.iload_n 2, 1) := by decide +kernel
theorem dX5_slips_32 : decode cX5_slips 32 = .ok (.invokevirtual 164, 3) := by decide +kernel
theorem dX5_slips_35 : decode cX5_slips 35 = .ok (.bipush 14, 2) := by decide +kernel
theorem dX5_slips_37 : decode cX5_slips 37 = .ok (.ishl, 1) := by decide +kernel
theorem dX5_slips_38 : decode cX5_slips 38 = .ok (.aload_n 0, 1) := by decide +kernel
theorem dX5_slips_39 : decode cX5_slips 39 = .ok (.getfield 19, 3) := by decide +kernel
theorem dX5_slips_42 : decode cX5_slips 42 = .ok (.iload_n 1, 1) := by decide +kernel
theorem dX5_slips_43 : decode cX5_slips 43 = .ok (.invokestatic 194, 3) := by decide +kernel
theorem dX5_slips_46 : decode cX5_slips 46 = .ok (.iload_n 3, 1) := by decide +kernel
theorem dX5_slips_47 : decode cX5_slips 47 = .ok (.invokevirtual 164, 3) := by decide +kernel
theorem dX5_slips_50 : decode cX5_slips 50 = .ok (.ior, 1) := by decide +kernel
theorem dX5_slips_51 : decode cX5_slips 51 = .ok (.istore 4, 2) := by decide +kernel
theorem dX5_slips_53 : decode cX5_slips 53 = .ok (.iconst 0, 1) := by decide +kernel
theorem dX5_slips_54 : decode cX5_slips 54 = .ok (.istore 5, 2) := by decide +kernel
theorem dX5_slips_56 : decode cX5_slips 56 = .ok (.iconst 1, 1) := by decide +kernel
theorem dX5_slips_57 : decode cX5_slips 57 = .ok (.istore 6, 2) := by decide +kernel
theorem dX5_slips_59 : decode cX5_slips 59 = .ok (.iload 6, 2) := by decide +kernel
theorem dX5_slips_61 : decode cX5_slips 61 = .ok (.bipush 14, 2) := by decide +kernel
theorem dX5_slips_63 : decode cX5_slips 63 = .ok (.if_icmp .ge 42, 3) := by decide +kernel
theorem dX5_slips_66 : decode cX5_slips 66 = .ok (.aload_n 0, 1) := by decide +kernel
theorem dX5_slips_67 : decode cX5_slips 67 = .ok (.getfield 19, 3) := by decide +kernel
theorem dX5_slips_70 : decode cX5_slips 70 = .ok (.iload 4, 2) := by decide +kernel
theorem dX5_slips_72 : decode cX5_slips 72 = .ok (.bipush 14, 2) := by decide +kernel
theorem dX5_slips_74 : decode cX5_slips 74 = .ok (.iload 6, 2) := by decide +kernel
theorem dX5_slips_76 : decode cX5_slips 76 = .ok (.isub, 1) := by decide +kernel
theorem dX5_slips_77 : decode cX5_slips 77 = .ok (.ishr, 1) := by decide +kernel
theorem dX5_slips_78 : decode cX5_slips 78 = .ok (.sipush 16383, 3) := by decide +kernel
theorem dX5_slips_81 : decode cX5_slips 81 = .ok (.iand, 1) := by decide +kernel
theorem dX5_slips_82 : decode cX5_slips 82 = .ok (.invokevirtual 197, 3) := by decide +kernel
theorem dX5_slips_85 : decode cX5_slips 85 = .ok (.bipush (-9), 2) := by decide +kernel
theorem dX5_slips_87 : decode cX5_slips 87 = .ok (.if_icmp .eq 12, 3) := by decide +kernel
theorem dX5_slips_90 : decode cX5_slips 90 = .ok (.iload 5, 2) := by decide +kernel
theorem dX5_slips_92 : decode cX5_slips 92 = .ok (.iconst 1, 1) := by decide +kernel
theorem dX5_slips_93 : decode cX5_slips 93 = .ok (.iload 6, 2) := by decide +kernel
theorem dX5_slips_95 : decode cX5_slips 95 = .ok (.ishl, 1) := by decide +kernel
theorem dX5_slips_96 : decode cX5_slips 96 = .ok (.ior, 1) := by decide +kernel
theorem dX5_slips_97 : decode cX5_slips 97 = .ok (.istore 5, 2) := by decide +kernel
theorem dX5_slips_99 : decode cX5_slips 99 = .ok (.iinc 6 1, 3) := by decide +kernel
theorem dX5_slips_102 : decode cX5_slips 102 = .ok (.goto (-43), 3) := by decide +kernel
theorem dX5_slips_105 : decode cX5_slips 105 = .ok (.iload 5, 2) := by decide +kernel
theorem dX5_slips_107 : decode cX5_slips 107 = .ok (.ireturn, 1) := by decide +kernel
theorem dX5_bits_0 : decode cX5_bits 0 = .ok (.iload_n 1, 1) := by decide +kernel
theorem dX5_bits_1 : decode cX5_bits 1 = .ok (.iconst 1, 1) := by decide +kernel
theorem dX5_bits_2 : decode cX5_bits 2 = .ok (.if_icmp .lt 19, 3) := by decide +kernel
theorem dX5_bits_5 : decode cX5_bits 5 = .ok (.iload_n 1, 1) := by decide +kernel
theorem dX5_bits_6 : decode cX5_bits 6 = .ok (.bipush 14, 2) := by decide +kernel
theorem dX5_bits_8 : decode cX5_bits 8 = .ok (.if_icmp .gt 13, 3) := by decide +kernel
theorem dX5_bits_11 : decode cX5_bits 11 = .ok (.iload_n 2, 1) := by decide +kernel
theorem dX5_bits_12 : decode cX5_bits 12 = .ok (.ifCond .lt 9, 3) := by decide +kernel
theorem dX5_bits_15 : decode cX5_bits 15 = .ok (.iload_n 2, 1) := by decide +kernel
theorem dX5_bits_16 : decode cX5_bits 16 = .ok (.iload_n 1, 1) := by decide +kernel
theorem dX5_bits_17 : decode cX5_bits 17 = .ok (.ishr, 1) := by decide +kernel
theorem dX5_bits_18 : decode cX5_bits 18 = .ok (.ifCond .eq 6, 3) := by decide +kernel
theorem dX5_bits_21 : decode cX5_bits 21 = .ok (.bipush (-2), 2) := by decide +kernel
theorem dX5_bits_23 : decode cX5_bits 23 = .ok (.ireturn, 1) := by decide +kernel
theorem dX5_bits_24 : decode cX5_bits 24 = .ok (.aload_n 0, 1) := by decide +kernel
theorem dX5_bits_25 : decode cX5_bits 25 = .ok (.getfield 33, 3) := by decide +kernel
theorem dX5_bits_28 : decode cX5_bits 28 = .ok (.aload_n 0, 1) := by decide +kernel
theorem dX5_bits_29 : decode cX5_bits 29 = .ok (.getfield 26, 3) := by decide +kernel
theorem dX5_bits_32 : decode cX5_bits 32 = .ok (.invokevirtual 200, 3) := by decide +kernel
theorem dX5_bits_35 : decode cX5_bits 35 = .ok (.aload_n 0, 1) := by decide +kernel
theorem dX5_bits_36 : decode cX5_bits 36 = .ok (.getfield 26, 3) := by decide +kernel
theorem dX5_bits_39 : decode cX5_bits 39 = .ok (.aload_n 0, 1) := by decide +kernel
theorem dX5_bits_40 : decode cX5_bits 40 = .ok (.getfield 19, 3) := by decide +kernel
theorem dX5_bits_43 : decode cX5_bits 43 = .ok (.iload_n 2, 1) := by decide +kernel
theorem dX5_bits_44 : decode cX5_bits 44 = .ok (.i2l, 1) := by decide +kernel
theorem dX5_bits_45 : decode cX5_bits 45 = .ok (.iload_n 1, 1) := by decide +kernel
theorem dX5_bits_46 : decode cX5_bits 46 = .ok (.invokevirtual 204, 3) := by decide +kernel
theorem dX5_bits_49 : decode cX5_bits 49 = .ok (.aload_n 0, 1) := by decide +kernel
theorem dX5_bits_50 : decode cX5_bits 50 = .ok (.getfield 26, 3) := by decide +kernel
theorem dX5_bits_53 : decode cX5_bits 53 = .ok (.invokevirtual 208, 3) := by decide +kernel
theorem dX5_bits_56 : decode cX5_bits 56 = .ok (.ireturn, 1) := by decide +kernel
theorem dX5_hear_0 : decode cX5_hear 0 = .ok (.iload_n 1, 1) := by decide +kernel
theorem dX5_hear_1 : decode cX5_hear 1 = .ok (.invokestatic 109, 3) := by decide +kernel
theorem dX5_hear_4 : decode cX5_hear 4 = .ok (.ifCond .ne 5, 3) := by decide +kernel
theorem dX5_hear_7 : decode cX5_hear 7 = .ok (.iconst (-1), 1) := by decide +kernel
theorem dX5_hear_8 : decode cX5_hear 8 = .ok (.ireturn, 1) := by decide +kernel
theorem dX5_hear_9 : decode cX5_hear 9 = .ok (.iload_n 2, 1) := by decide +kernel
theorem dX5_hear_10 : decode cX5_hear 10 = .ok (.invokestatic 161, 3) := by decide +kernel
theorem dX5_hear_13 : decode cX5_hear 13 = .ok (.ifCond .eq 10, 3) := by decide +kernel
theorem dX5_hear_16 : decode cX5_hear 16 = .ok (.iload_n 3, 1) := by decide +kernel
theorem dX5_hear_17 : decode cX5_hear 17 = .ok (.invokestatic 168, 3) := by decide +kernel
theorem dX5_hear_20 : decode cX5_hear 20 = .ok (.ifCond .ne 6, 3) := by decide +kernel
theorem dX5_hear_23 : decode cX5_hear 23 = .ok (.bipush (-2), 2) := by decide +kernel
theorem dX5_hear_25 : decode cX5_hear 25 = .ok (.ireturn, 1) := by decide +kernel
theorem dX5_hear_26 : decode cX5_hear 26 = .ok (.aload_n 0, 1) := by decide +kernel
theorem dX5_hear_27 : decode cX5_hear 27 = .ok (.getfield 33, 3) := by decide +kernel
theorem dX5_hear_30 : decode cX5_hear 30 = .ok (.aload_n 0, 1) := by decide +kernel
theorem dX5_hear_31 : decode cX5_hear 31 = .ok (.getfield 26, 3) := by decide +kernel
theorem dX5_hear_34 : decode cX5_hear 34 = .ok (.invokevirtual 200, 3) := by decide +kernel
theorem dX5_hear_37 : decode cX5_hear 37 = .ok (.aload_n 0, 1) := by decide +kernel
theorem dX5_hear_38 : decode cX5_hear 38 = .ok (.getfield 26, 3) := by decide +kernel
theorem dX5_hear_41 : decode cX5_hear 41 = .ok (.aload_n 0, 1) := by decide +kernel
theorem dX5_hear_42 : decode cX5_hear 42 = .ok (.getfield 19, 3) := by decide +kernel
theorem dX5_hear_45 : decode cX5_hear 45 = .ok (.aload_n 0, 1) := by decide +kernel
theorem dX5_hear_46 : decode cX5_hear 46 = .ok (.getfield 19, 3) := by decide +kernel
theorem dX5_hear_49 : decode cX5_hear 49 = .ok (.iload_n 1, 1) := by decide +kernel
theorem dX5_hear_50 : decode cX5_hear 50 = .ok (.iload_n 2, 1) := by decide +kernel
theorem dX5_hear_51 : decode cX5_hear 51 = .ok (.invokevirtual 164, 3) := by decide +kernel
theorem dX5_hear_54 : decode cX5_hear 54 = .ok (.iload_n 3, 1) := by decide +kernel
theorem dX5_hear_55 : decode cX5_hear 55 = .ok (.ixor, 1) := by decide +kernel
theorem dX5_hear_56 : decode cX5_hear 56 = .ok (.i2l, 1) := by decide +kernel
theorem dX5_hear_57 : decode cX5_hear 57 = .ok (.bipush 14, 2) := by decide +kernel
theorem dX5_hear_59 : decode cX5_hear 59 = .ok (.invokevirtual 204, 3) := by decide +kernel
theorem dX5_hear_62 : decode cX5_hear 62 = .ok (.aload_n 0, 1) := by decide +kernel
theorem dX5_hear_63 : decode cX5_hear 63 = .ok (.getfield 26, 3) := by decide +kernel
theorem dX5_hear_66 : decode cX5_hear 66 = .ok (.invokevirtual 208, 3) := by decide +kernel
theorem dX5_hear_69 : decode cX5_hear 69 = .ok (.ireturn, 1) := by decide +kernel
theorem dX5_group_0 : decode cX5_group 0 = .ok (.iload_n 2, 1) := by decide +kernel
theorem dX5_group_1 : decode cX5_group 1 = .ok (.iconst 1, 1) := by decide +kernel
theorem dX5_group_2 : decode cX5_group 2 = .ok (.if_icmp .lt 9, 3) := by decide +kernel
theorem dX5_group_5 : decode cX5_group 5 = .ok (.iload_n 2, 1) := by decide +kernel
theorem dX5_group_6 : decode cX5_group 6 = .ok (.bipush 9, 2) := by decide +kernel
theorem dX5_group_8 : decode cX5_group 8 = .ok (.if_icmp .le 6, 3) := by decide +kernel
theorem dX5_group_11 : decode cX5_group 11 = .ok (.bipush (-2), 2) := by decide +kernel
theorem dX5_group_13 : decode cX5_group 13 = .ok (.ireturn, 1) := by decide +kernel
theorem dX5_group_14 : decode cX5_group 14 = .ok (.aload_n 0, 1) := by decide +kernel
theorem dX5_group_15 : decode cX5_group 15 = .ok (.getfield 33, 3) := by decide +kernel
theorem dX5_group_18 : decode cX5_group 18 = .ok (.aload_n 0, 1) := by decide +kernel
theorem dX5_group_19 : decode cX5_group 19 = .ok (.getfield 26, 3) := by decide +kernel
theorem dX5_group_22 : decode cX5_group 22 = .ok (.invokevirtual 200, 3) := by decide +kernel
theorem dX5_group_25 : decode cX5_group 25 = .ok (.aload_n 0, 1) := by decide +kernel
theorem dX5_group_26 : decode cX5_group 26 = .ok (.getfield 26, 3) := by decide +kernel
theorem dX5_group_29 : decode cX5_group 29 = .ok (.getfield 211, 3) := by decide +kernel
theorem dX5_group_32 : decode cX5_group 32 = .ok (.aload_n 0, 1) := by decide +kernel
theorem dX5_group_33 : decode cX5_group 33 = .ok (.getfield 26, 3) := by decide +kernel
theorem dX5_group_36 : decode cX5_group 36 = .ok (.getfield 214, 3) := by decide +kernel
theorem dX5_group_39 : decode cX5_group 39 = .ok (.iadd, 1) := by decide +kernel
theorem dX5_group_40 : decode cX5_group 40 = .ok (.istore_n 3, 1) := by decide +kernel
theorem dX5_group_41 : decode cX5_group 41 = .ok (.aload_n 0, 1) := by decide +kernel
theorem dX5_group_42 : decode cX5_group 42 = .ok (.aload_n 0, 1) := by decide +kernel
theorem dX5_group_43 : decode cX5_group 43 = .ok (.getfield 26, 3) := by decide +kernel
theorem dX5_group_46 : decode cX5_group 46 = .ok (.iload_n 1, 1) := by decide +kernel
theorem dX5_group_47 : decode cX5_group 47 = .ok (.iload_n 2, 1) := by decide +kernel
theorem dX5_group_48 : decode cX5_group 48 = .ok (.invokevirtual 217, 3) := by decide +kernel
theorem dX5_group_51 : decode cX5_group 51 = .ok (.aload_n 0, 1) := by decide +kernel
theorem dX5_group_52 : decode cX5_group 52 = .ok (.getfield 26, 3) := by decide +kernel
theorem dX5_group_55 : decode cX5_group 55 = .ok (.getfield 211, 3) := by decide +kernel
theorem dX5_group_58 : decode cX5_group 58 = .ok (.aload_n 0, 1) := by decide +kernel
theorem dX5_group_59 : decode cX5_group 59 = .ok (.getfield 26, 3) := by decide +kernel
theorem dX5_group_62 : decode cX5_group 62 = .ok (.getfield 214, 3) := by decide +kernel
theorem dX5_group_65 : decode cX5_group 65 = .ok (.iadd, 1) := by decide +kernel
theorem dX5_group_66 : decode cX5_group 66 = .ok (.iload_n 3, 1) := by decide +kernel
theorem dX5_group_67 : decode cX5_group 67 = .ok (.isub, 1) := by decide +kernel
theorem dX5_group_68 : decode cX5_group 68 = .ok (.ireturn, 1) := by decide +kernel
theorem dX5_reset_0 : decode cX5_reset 0 = .ok (.aload_n 0, 1) := by decide +kernel
theorem dX5_reset_1 : decode cX5_reset 1 = .ok (.getfield 26, 3) := by decide +kernel
theorem dX5_reset_4 : decode cX5_reset 4 = .ok (.invokevirtual 208, 3) := by decide +kernel
theorem dX5_reset_7 : decode cX5_reset 7 = .ok (.istore_n 1, 1) := by decide +kernel
theorem dX5_reset_8 : decode cX5_reset 8 = .ok (.aload_n 0, 1) := by decide +kernel
theorem dX5_reset_9 : decode cX5_reset 9 = .ok (.getfield 33, 3) := by decide +kernel
theorem dX5_reset_12 : decode cX5_reset 12 = .ok (.aload_n 0, 1) := by decide +kernel
theorem dX5_reset_13 : decode cX5_reset 13 = .ok (.getfield 26, 3) := by decide +kernel
theorem dX5_reset_16 : decode cX5_reset 16 = .ok (.invokevirtual 200, 3) := by decide +kernel
theorem dX5_reset_19 : decode cX5_reset 19 = .ok (.aload_n 0, 1) := by decide +kernel
theorem dX5_reset_20 : decode cX5_reset 20 = .ok (.getfield 26, 3) := by decide +kernel
theorem dX5_reset_23 : decode cX5_reset 23 = .ok (.invokevirtual 221, 3) := by decide +kernel
theorem dX5_reset_26 : decode cX5_reset 26 = .ok (.iload_n 1, 1) := by decide +kernel
theorem dX5_reset_27 : decode cX5_reset 27 = .ok (.ireturn, 1) := by decide +kernel
theorem dX5_undo_0 : decode cX5_undo 0 = .ok (.aload_n 0, 1) := by decide +kernel
theorem dX5_undo_1 : decode cX5_undo 1 = .ok (.getfield 33, 3) := by decide +kernel
theorem dX5_undo_4 : decode cX5_undo 4 = .ok (.aload_n 0, 1) := by decide +kernel
theorem dX5_undo_5 : decode cX5_undo 5 = .ok (.getfield 26, 3) := by decide +kernel
theorem dX5_undo_8 : decode cX5_undo 8 = .ok (.invokevirtual 224, 3) := by decide +kernel
theorem dX5_undo_11 : decode cX5_undo 11 = .ok (.ifCond .eq 13, 3) := by decide +kernel
theorem dX5_undo_14 : decode cX5_undo 14 = .ok (.aload_n 0, 1) := by decide +kernel
theorem dX5_undo_15 : decode cX5_undo 15 = .ok (.getfield 33, 3) := by decide +kernel
theorem dX5_undo_18 : decode cX5_undo 18 = .ok (.getfield 96, 3) := by decide +kernel
theorem dX5_undo_21 : decode cX5_undo 21 = .ok (.goto 5, 3) := by decide +kernel
theorem dX5_undo_24 : decode cX5_undo 24 = .ok (.bipush (-3), 2) := by decide +kernel
theorem dX5_undo_26 : decode cX5_undo 26 = .ok (.ireturn, 1) := by decide +kernel
theorem dX5_ahead_0 : decode cX5_ahead 0 = .ok (.iload_n 2, 1) := by decide +kernel
theorem dX5_ahead_1 : decode cX5_ahead 1 = .ok (.ifCond .lt 20, 3) := by decide +kernel
theorem dX5_ahead_4 : decode cX5_ahead 4 = .ok (.iload_n 2, 1) := by decide +kernel
theorem dX5_ahead_5 : decode cX5_ahead 5 = .ok (.bipush 9, 2) := by decide +kernel
theorem dX5_ahead_7 : decode cX5_ahead 7 = .ok (.if_icmp .gt 14, 3) := by decide +kernel
theorem dX5_ahead_10 : decode cX5_ahead 10 = .ok (.iload_n 3, 1) := by decide +kernel
theorem dX5_ahead_11 : decode cX5_ahead 11 = .ok (.iconst 3, 1) := by decide +kernel
theorem dX5_ahead_12 : decode cX5_ahead 12 = .ok (.if_icmp .lt 9, 3) := by decide +kernel
theorem dX5_ahead_15 : decode cX5_ahead 15 = .ok (.iload_n 3, 1) := by decide +kernel
theorem dX5_ahead_16 : decode cX5_ahead 16 = .ok (.bipush 12, 2) := by decide +kernel
theorem dX5_ahead_18 : decode cX5_ahead 18 = .ok (.if_icmp .le 6, 3) := by decide +kernel
theorem dX5_ahead_21 : decode cX5_ahead 21 = .ok (.bipush (-2), 2) := by decide +kernel
theorem dX5_ahead_23 : decode cX5_ahead 23 = .ok (.ireturn, 1) := by decide +kernel
theorem dX5_ahead_24 : decode cX5_ahead 24 = .ok (.aload_n 0, 1) := by decide +kernel
theorem dX5_ahead_25 : decode cX5_ahead 25 = .ok (.invokevirtual 228, 3) := by decide +kernel
theorem dX5_ahead_28 : decode cX5_ahead 28 = .ok (.astore 4, 2) := by decide +kernel
theorem dX5_ahead_30 : decode cX5_ahead 30 = .ok (.aload_n 0, 1) := by decide +kernel
theorem dX5_ahead_31 : decode cX5_ahead 31 = .ok (.aload 4, 2) := by decide +kernel
theorem dX5_ahead_33 : decode cX5_ahead 33 = .ok (.iload_n 1, 1) := by decide +kernel
theorem dX5_ahead_34 : decode cX5_ahead 34 = .ok (.iload_n 2, 1) := by decide +kernel
theorem dX5_ahead_35 : decode cX5_ahead 35 = .ok (.invokevirtual 217, 3) := by decide +kernel
theorem dX5_ahead_38 : decode cX5_ahead 38 = .ok (.aload 4, 2) := by decide +kernel
theorem dX5_ahead_40 : decode cX5_ahead 40 = .ok (.iload_n 3, 1) := by decide +kernel
theorem dX5_ahead_41 : decode cX5_ahead 41 = .ok (.invokevirtual 105, 3) := by decide +kernel
theorem dX5_ahead_44 : decode cX5_ahead 44 = .ok (.ireturn, 1) := by decide +kernel
theorem dX5_needs_0 : decode cX5_needs 0 = .ok (.aload_n 0, 1) := by decide +kernel
theorem dX5_needs_1 : decode cX5_needs 1 = .ok (.invokevirtual 228, 3) := by decide +kernel
theorem dX5_needs_4 : decode cX5_needs 4 = .ok (.astore_n 2, 1) := by decide +kernel
theorem dX5_needs_5 : decode cX5_needs 5 = .ok (.aload_n 0, 1) := by decide +kernel
theorem dX5_needs_6 : decode cX5_needs 6 = .ok (.getfield 19, 3) := by decide +kernel
theorem dX5_needs_9 : decode cX5_needs 9 = .ok (.iload_n 1, 1) := by decide +kernel
theorem dX5_needs_10 : decode cX5_needs 10 = .ok (.invokevirtual 232, 3) := by decide +kernel
theorem dX5_needs_13 : decode cX5_needs 13 = .ok (.lstore_n 3, 1) := by decide +kernel
theorem dX5_needs_14 : decode cX5_needs 14 = .ok (.iconst 0, 1) := by decide +kernel
theorem dX5_needs_15 : decode cX5_needs 15 = .ok (.istore 5, 2) := by decide +kernel
theorem dX5_needs_17 : decode cX5_needs 17 = .ok (.iload 5, 2) := by decide +kernel
theorem dX5_needs_19 : decode cX5_needs 19 = .ok (.bipush 9, 2) := by decide +kernel
theorem dX5_needs_21 : decode cX5_needs 21 = .ok (.if_icmp .gt 37, 3) := by decide +kernel
theorem dX5_needs_24 : decode cX5_needs 24 = .ok (.aload_n 2, 1) := by decide +kernel
theorem dX5_needs_25 : decode cX5_needs 25 = .ok (.getfield 236, 3) := by decide +kernel
theorem dX5_needs_28 : decode cX5_needs 28 = .ok (.ifCond .eq 6, 3) := by decide +kernel
theorem dX5_needs_31 : decode cX5_needs 31 = .ok (.iload 5, 2) := by decide +kernel
theorem dX5_needs_33 : decode cX5_needs 33 = .ok (.ireturn, 1) := by decide +kernel
theorem dX5_needs_34 : decode cX5_needs 34 = .ok (.iload 5, 2) := by decide +kernel
theorem dX5_needs_36 : decode cX5_needs 36 = .ok (.bipush 9, 2) := by decide +kernel
theorem dX5_needs_38 : decode cX5_needs 38 = .ok (.if_icmp .ge 14, 3) := by decide +kernel
theorem dX5_needs_41 : decode cX5_needs 41 = .ok (.aload_n 2, 1) := by decide +kernel
theorem dX5_needs_42 : decode cX5_needs 42 = .ok (.aload_n 0, 1) := by decide +kernel
theorem dX5_needs_43 : decode cX5_needs 43 = .ok (.getfield 19, 3) := by decide +kernel
theorem dX5_needs_46 : decode cX5_needs 46 = .ok (.lload_n 3, 1) := by decide +kernel
theorem dX5_needs_47 : decode cX5_needs 47 = .ok (.bipush 56, 2) := by decide +kernel
theorem dX5_needs_49 : decode cX5_needs 49 = .ok (.invokevirtual 204, 3) := by decide +kernel
theorem dX5_needs_52 : decode cX5_needs 52 = .ok (.iinc 5 1, 3) := by decide +kernel
theorem dX5_needs_55 : decode cX5_needs 55 = .ok (.goto (-38), 3) := by decide +kernel
theorem dX5_needs_58 : decode cX5_needs 58 = .ok (.bipush (-9), 2) := by decide +kernel
theorem dX5_needs_60 : decode cX5_needs 60 = .ok (.ireturn, 1) := by decide +kernel
theorem dX5_judge_0 : decode cX5_judge 0 = .ok (.iload_n 1, 1) := by decide +kernel
theorem dX5_judge_1 : decode cX5_judge 1 = .ok (.iconst 1, 1) := by decide +kernel
theorem dX5_judge_2 : decode cX5_judge 2 = .ok (.if_icmp .lt 24, 3) := by decide +kernel
theorem dX5_judge_5 : decode cX5_judge 5 = .ok (.iload_n 1, 1) := by decide +kernel
theorem dX5_judge_6 : decode cX5_judge 6 = .ok (.iconst 3, 1) := by decide +kernel
theorem dX5_judge_7 : decode cX5_judge 7 = .ok (.if_icmp .gt 19, 3) := by decide +kernel
theorem dX5_judge_10 : decode cX5_judge 10 = .ok (.lload_n 2, 1) := by decide +kernel
theorem dX5_judge_11 : decode cX5_judge 11 = .ok (.lconst 0, 1) := by decide +kernel
theorem dX5_judge_12 : decode cX5_judge 12 = .ok (.lcmp, 1) := by decide +kernel
theorem dX5_judge_13 : decode cX5_judge 13 = .ok (.ifCond .lt 13, 3) := by decide +kernel
theorem dX5_judge_16 : decode cX5_judge 16 = .ok (.lload_n 2, 1) := by decide +kernel
theorem dX5_judge_17 : decode cX5_judge 17 = .ok (.iload_n 1, 1) := by decide +kernel
theorem dX5_judge_18 : decode cX5_judge 18 = .ok (.invokestatic 240, 3) := by decide +kernel
theorem dX5_judge_21 : decode cX5_judge 21 = .ok (.lconst 0, 1) := by decide +kernel
theorem dX5_judge_22 : decode cX5_judge 22 = .ok (.lcmp, 1) := by decide +kernel
theorem dX5_judge_23 : decode cX5_judge 23 = .ok (.ifCond .eq 6, 3) := by decide +kernel
theorem dX5_judge_26 : decode cX5_judge 26 = .ok (.bipush (-2), 2) := by decide +kernel
theorem dX5_judge_28 : decode cX5_judge 28 = .ok (.ireturn, 1) := by decide +kernel
theorem dX5_judge_29 : decode cX5_judge 29 = .ok (.aload_n 0, 1) := by decide +kernel
theorem dX5_judge_30 : decode cX5_judge 30 = .ok (.invokevirtual 228, 3) := by decide +kernel
theorem dX5_judge_33 : decode cX5_judge 33 = .ok (.astore 4, 2) := by decide +kernel
theorem dX5_judge_35 : decode cX5_judge 35 = .ok (.iconst 0, 1) := by decide +kernel
theorem dX5_judge_36 : decode cX5_judge 36 = .ok (.istore 5, 2) := by decide +kernel
theorem dX5_judge_38 : decode cX5_judge 38 = .ok (.iload 5, 2) := by decide +kernel
theorem dX5_judge_40 : decode cX5_judge 40 = .ok (.iload_n 1, 1) := by decide +kernel
theorem dX5_judge_41 : decode cX5_judge 41 = .ok (.if_icmp .ge 40, 3) := by decide +kernel
theorem dX5_judge_44 : decode cX5_judge 44 = .ok (.lload_n 2, 1) := by decide +kernel
theorem dX5_judge_45 : decode cX5_judge 45 = .ok (.iload_n 1, 1) := by decide +kernel
theorem dX5_judge_46 : decode cX5_judge 46 = .ok (.iconst 1, 1) := by decide +kernel
theorem dX5_judge_47 : decode cX5_judge 47 = .ok (.isub, 1) := by decide +kernel
theorem dX5_judge_48 : decode cX5_judge 48 = .ok (.iload 5, 2) := by decide +kernel
theorem dX5_judge_50 : decode cX5_judge 50 = .ok (.isub, 1) := by decide +kernel
theorem dX5_judge_51 : decode cX5_judge 51 = .ok (.invokestatic 240, 3) := by decide +kernel
theorem dX5_judge_54 : decode cX5_judge 54 = .ok (.ldc2_w 244, 3) := by decide +kernel
theorem dX5_judge_57 : decode cX5_judge 57 = .ok (.lrem, 1) := by decide +kernel
theorem dX5_judge_58 : decode cX5_judge 58 = .ok (.l2i, 1) := by decide +kernel
theorem dX5_judge_59 : decode cX5_judge 59 = .ok (.istore 6, 2) := by decide +kernel
theorem dX5_judge_61 : decode cX5_judge 61 = .ok (.aload_n 0, 1) := by decide +kernel
theorem dX5_judge_62 : decode cX5_judge 62 = .ok (.aload 4, 2) := by decide +kernel
theorem dX5_judge_64 : decode cX5_judge 64 = .ok (.iload 6, 2) := by decide +kernel
theorem dX5_judge_66 : decode cX5_judge 66 = .ok (.invokevirtual 246, 3) := by decide +kernel
theorem dX5_judge_69 : decode cX5_judge 69 = .ok (.ifCond .ne 6, 3) := by decide +kernel
theorem dX5_judge_72 : decode cX5_judge 72 = .ok (.iload 5, 2) := by decide +kernel
theorem dX5_judge_74 : decode cX5_judge 74 = .ok (.ireturn, 1) := by decide +kernel
theorem dX5_judge_75 : decode cX5_judge 75 = .ok (.iinc 5 1, 3) := by decide +kernel
theorem dX5_judge_78 : decode cX5_judge 78 = .ok (.goto (-40), 3) := by decide +kernel
theorem dX5_judge_81 : decode cX5_judge 81 = .ok (.bipush (-9), 2) := by decide +kernel
theorem dX5_judge_83 : decode cX5_judge 83 = .ok (.ireturn, 1) := by decide +kernel
theorem dX5_see_0 : decode cX5_see 0 = .ok (.iload_n 2, 1) := by decide +kernel
theorem dX5_see_1 : decode cX5_see 1 = .ok (.ifCond .lt 18, 3) := by decide +kernel
theorem dX5_see_4 : decode cX5_see 4 = .ok (.iload_n 2, 1) := by decide +kernel
theorem dX5_see_5 : decode cX5_see 5 = .ok (.iconst 2, 1) := by decide +kernel
theorem dX5_see_6 : decode cX5_see 6 = .ok (.if_icmp .gt 13, 3) := by decide +kernel
theorem dX5_see_9 : decode cX5_see 9 = .ok (.iload_n 3, 1) := by decide +kernel
theorem dX5_see_10 : decode cX5_see 10 = .ok (.ifCond .lt 9, 3) := by decide +kernel
theorem dX5_see_13 : decode cX5_see 13 = .ok (.iload_n 3, 1) := by decide +kernel
theorem dX5_see_14 : decode cX5_see 14 = .ok (.bipush 9, 2) := by decide +kernel
theorem dX5_see_16 : decode cX5_see 16 = .ok (.if_icmp .le 6, 3) := by decide +kernel
theorem dX5_see_19 : decode cX5_see 19 = .ok (.bipush (-2), 2) := by decide +kernel
theorem dX5_see_21 : decode cX5_see 21 = .ok (.ireturn, 1) := by decide +kernel
theorem dX5_see_22 : decode cX5_see 22 = .ok (.aload_n 0, 1) := by decide +kernel
theorem dX5_see_23 : decode cX5_see 23 = .ok (.getfield 58, 3) := by decide +kernel
theorem dX5_see_26 : decode cX5_see 26 = .ok (.iconst 4, 1) := by decide +kernel
theorem dX5_see_27 : decode cX5_see 27 = .ok (.if_icmp .lt 6, 3) := by decide +kernel
theorem dX5_see_30 : decode cX5_see 30 = .ok (.bipush (-4), 2) := by decide +kernel
theorem dX5_see_32 : decode cX5_see 32 = .ok (.ireturn, 1) := by decide +kernel
theorem dX5_see_33 : decode cX5_see 33 = .ok (.aload_n 0, 1) := by decide +kernel
theorem dX5_see_34 : decode cX5_see 34 = .ok (.getfield 48, 3) := by decide +kernel
theorem dX5_see_37 : decode cX5_see 37 = .ok (.aload_n 0, 1) := by decide +kernel
theorem dX5_see_38 : decode cX5_see 38 = .ok (.getfield 58, 3) := by decide +kernel
theorem dX5_see_41 : decode cX5_see 41 = .ok (.iload_n 1, 1) := by decide +kernel
theorem dX5_see_42 : decode cX5_see 42 = .ok (.iastore, 1) := by decide +kernel
theorem dX5_see_43 : decode cX5_see 43 = .ok (.aload_n 0, 1) := by decide +kernel
theorem dX5_see_44 : decode cX5_see 44 = .ok (.getfield 52, 3) := by decide +kernel
theorem dX5_see_47 : decode cX5_see 47 = .ok (.aload_n 0, 1) := by decide +kernel
theorem dX5_see_48 : decode cX5_see 48 = .ok (.getfield 58, 3) := by decide +kernel
theorem dX5_see_51 : decode cX5_see 51 = .ok (.iload_n 2, 1) := by decide +kernel
theorem dX5_see_52 : decode cX5_see 52 = .ok (.iastore, 1) := by decide +kernel
theorem dX5_see_53 : decode cX5_see 53 = .ok (.aload_n 0, 1) := by decide +kernel
theorem dX5_see_54 : decode cX5_see 54 = .ok (.getfield 55, 3) := by decide +kernel
theorem dX5_see_57 : decode cX5_see 57 = .ok (.aload_n 0, 1) := by decide +kernel
theorem dX5_see_58 : decode cX5_see 58 = .ok (.getfield 58, 3) := by decide +kernel
theorem dX5_see_61 : decode cX5_see 61 = .ok (.iload_n 3, 1) := by decide +kernel
theorem dX5_see_62 : decode cX5_see 62 = .ok (.iastore, 1) := by decide +kernel
theorem dX5_see_63 : decode cX5_see 63 = .ok (.aload_n 0, 1) := by decide +kernel
theorem dX5_see_64 : decode cX5_see 64 = .ok (.dup, 1) := by decide +kernel
theorem dX5_see_65 : decode cX5_see 65 = .ok (.getfield 58, 3) := by decide +kernel
theorem dX5_see_68 : decode cX5_see 68 = .ok (.iconst 1, 1) := by decide +kernel
theorem dX5_see_69 : decode cX5_see 69 = .ok (.iadd, 1) := by decide +kernel
theorem dX5_see_70 : decode cX5_see 70 = .ok (.putfield 58, 3) := by decide +kernel
theorem dX5_see_73 : decode cX5_see 73 = .ok (.aload_n 0, 1) := by decide +kernel
theorem dX5_see_74 : decode cX5_see 74 = .ok (.getfield 58, 3) := by decide +kernel
theorem dX5_see_77 : decode cX5_see 77 = .ok (.ireturn, 1) := by decide +kernel
theorem dX5_unsee_0 : decode cX5_unsee 0 = .ok (.aload_n 0, 1) := by decide +kernel
theorem dX5_unsee_1 : decode cX5_unsee 1 = .ok (.getfield 58, 3) := by decide +kernel
theorem dX5_unsee_4 : decode cX5_unsee 4 = .ok (.istore_n 1, 1) := by decide +kernel
theorem dX5_unsee_5 : decode cX5_unsee 5 = .ok (.aload_n 0, 1) := by decide +kernel
theorem dX5_unsee_6 : decode cX5_unsee 6 = .ok (.iconst 0, 1) := by decide +kernel
theorem dX5_unsee_7 : decode cX5_unsee 7 = .ok (.putfield 58, 3) := by decide +kernel
theorem dX5_unsee_10 : decode cX5_unsee 10 = .ok (.iload_n 1, 1) := by decide +kernel
theorem dX5_unsee_11 : decode cX5_unsee 11 = .ok (.ireturn, 1) := by decide +kernel
theorem dX5_which_0 : decode cX5_which 0 = .ok (.ldc2_w 250, 3) := by decide +kernel
theorem dX5_which_3 : decode cX5_which 3 = .ok (.lstore_n 1, 1) := by decide +kernel
theorem dX5_which_4 : decode cX5_which 4 = .ok (.iconst 0, 1) := by decide +kernel
theorem dX5_which_5 : decode cX5_which 5 = .ok (.istore_n 3, 1) := by decide +kernel
theorem dX5_which_6 : decode cX5_which 6 = .ok (.iload_n 3, 1) := by decide +kernel
theorem dX5_which_7 : decode cX5_which 7 = .ok (.aload_n 0, 1) := by decide +kernel
theorem dX5_which_8 : decode cX5_which 8 = .ok (.getfield 58, 3) := by decide +kernel
theorem dX5_which_11 : decode cX5_which 11 = .ok (.if_icmp .ge 16, 3) := by decide +kernel
theorem dX5_which_14 : decode cX5_which 14 = .ok (.aload_n 0, 1) := by decide +kernel
theorem dX5_which_15 : decode cX5_which 15 = .ok (.iload_n 3, 1) := by decide +kernel
theorem dX5_which_16 : decode cX5_which 16 = .ok (.lload_n 1, 1) := by decide +kernel
theorem dX5_which_17 : decode cX5_which 17 = .ok (.invokevirtual 252, 3) := by decide +kernel
theorem dX5_which_20 : decode cX5_which 20 = .ok (.lstore_n 1, 1) := by decide +kernel
theorem dX5_which_21 : decode cX5_which 21 = .ok (.iinc 3 1, 3) := by decide +kernel
theorem dX5_which_24 : decode cX5_which 24 = .ok (.goto (-18), 3) := by decide +kernel
theorem dX5_which_27 : decode cX5_which 27 = .ok (.lload_n 1, 1) := by decide +kernel
theorem dX5_which_28 : decode cX5_which 28 = .ok (.lreturn, 1) := by decide +kernel
theorem dX5_share_0 : decode cX5_share 0 = .ok (.iload_n 2, 1) := by decide +kernel
theorem dX5_share_1 : decode cX5_share 1 = .ok (.invokestatic 109, 3) := by decide +kernel
theorem dX5_share_4 : decode cX5_share 4 = .ok (.ifCond .ne 5, 3) := by decide +kernel
theorem dX5_share_7 : decode cX5_share 7 = .ok (.iconst (-1), 1) := by decide +kernel
theorem dX5_share_8 : decode cX5_share 8 = .ok (.ireturn, 1) := by decide +kernel
theorem dX5_share_9 : decode cX5_share 9 = .ok (.iconst 0, 1) := by decide +kernel
theorem dX5_share_10 : decode cX5_share 10 = .ok (.istore 4, 2) := by decide +kernel
theorem dX5_share_12 : decode cX5_share 12 = .ok (.iconst 0, 1) := by decide +kernel
theorem dX5_share_13 : decode cX5_share 13 = .ok (.istore 5, 2) := by decide +kernel
theorem dX5_share_15 : decode cX5_share 15 = .ok (.iload 5, 2) := by decide +kernel
theorem dX5_share_17 : decode cX5_share 17 = .ok (.bipush 16, 2) := by decide +kernel
theorem dX5_share_19 : decode cX5_share 19 = .ok (.if_icmp .ge 58, 3) := by decide +kernel
theorem dX5_share_22 : decode cX5_share 22 = .ok (.iload 5, 2) := by decide +kernel
theorem dX5_share_24 : decode cX5_share 24 = .ok (.iload_n 2, 1) := by decide +kernel
theorem dX5_share_25 : decode cX5_share 25 = .ok (.ishr, 1) := by decide +kernel
theorem dX5_share_26 : decode cX5_share 26 = .ok (.iconst 1, 1) := by decide +kernel
theorem dX5_share_27 : decode cX5_share 27 = .ok (.iand, 1) := by decide +kernel
theorem dX5_share_28 : decode cX5_share 28 = .ok (.ifCond .ne 43, 3) := by decide +kernel
theorem dX5_share_31 : decode cX5_share 31 = .ok (.aload_n 0, 1) := by decide +kernel
theorem dX5_share_32 : decode cX5_share 32 = .ok (.iload_n 1, 1) := by decide +kernel
theorem dX5_share_33 : decode cX5_share 33 = .ok (.iload 5, 2) := by decide +kernel
theorem dX5_share_35 : decode cX5_share 35 = .ok (.iconst 1, 1) := by decide +kernel
theorem dX5_share_36 : decode cX5_share 36 = .ok (.iload_n 2, 1) := by decide +kernel
theorem dX5_share_37 : decode cX5_share 37 = .ok (.ishl, 1) := by decide +kernel
theorem dX5_share_38 : decode cX5_share 38 = .ok (.ior, 1) := by decide +kernel
theorem dX5_share_39 : decode cX5_share 39 = .ok (.invokevirtual 256, 3) := by decide +kernel
theorem dX5_share_42 : decode cX5_share 42 = .ok (.aload_n 0, 1) := by decide +kernel
theorem dX5_share_43 : decode cX5_share 43 = .ok (.iload_n 1, 1) := by decide +kernel
theorem dX5_share_44 : decode cX5_share 44 = .ok (.iload 5, 2) := by decide +kernel
theorem dX5_share_46 : decode cX5_share 46 = .ok (.invokevirtual 256, 3) := by decide +kernel
theorem dX5_share_49 : decode cX5_share 49 = .ok (.isub, 1) := by decide +kernel
theorem dX5_share_50 : decode cX5_share 50 = .ok (.istore 6, 2) := by decide +kernel
theorem dX5_share_52 : decode cX5_share 52 = .ok (.iload 4, 2) := by decide +kernel
theorem dX5_share_54 : decode cX5_share 54 = .ok (.getstatic 259, 3) := by decide +kernel
theorem dX5_share_57 : decode cX5_share 57 = .ok (.iload 5, 2) := by decide +kernel
theorem dX5_share_59 : decode cX5_share 59 = .ok (.invokestatic 180, 3) := by decide +kernel
theorem dX5_share_62 : decode cX5_share 62 = .ok (.iconst 3, 1) := by decide +kernel
theorem dX5_share_63 : decode cX5_share 63 = .ok (.iand, 1) := by decide +kernel
theorem dX5_share_64 : decode cX5_share 64 = .ok (.iaload, 1) := by decide +kernel
theorem dX5_share_65 : decode cX5_share 65 = .ok (.iload 6, 2) := by decide +kernel
theorem dX5_share_67 : decode cX5_share 67 = .ok (.imul, 1) := by decide +kernel
theorem dX5_share_68 : decode cX5_share 68 = .ok (.iadd, 1) := by decide +kernel
theorem dX5_share_69 : decode cX5_share 69 = .ok (.istore 4, 2) := by decide +kernel
theorem dX5_share_71 : decode cX5_share 71 = .ok (.iinc 5 1, 3) := by decide +kernel
theorem dX5_share_74 : decode cX5_share 74 = .ok (.goto (-59), 3) := by decide +kernel
theorem dX5_share_77 : decode cX5_share 77 = .ok (.iload 4, 2) := by decide +kernel
theorem dX5_share_79 : decode cX5_share 79 = .ok (.bipush 24, 2) := by decide +kernel
theorem dX5_share_81 : decode cX5_share 81 = .ok (.iload_n 3, 1) := by decide +kernel
theorem dX5_share_82 : decode cX5_share 82 = .ok (.invokestatic 262, 3) := by decide +kernel
theorem dX5_share_85 : decode cX5_share 85 = .ok (.ireturn, 1) := by decide +kernel
theorem dX5_chance_0 : decode cX5_chance 0 = .ok (.iload_n 2, 1) := by decide +kernel
theorem dX5_chance_1 : decode cX5_chance 1 = .ok (.iconst 1, 1) := by decide +kernel
theorem dX5_chance_2 : decode cX5_chance 2 = .ok (.if_icmp .lt 18, 3) := by decide +kernel
theorem dX5_chance_5 : decode cX5_chance 5 = .ok (.iload_n 2, 1) := by decide +kernel
theorem dX5_chance_6 : decode cX5_chance 6 = .ok (.iconst 2, 1) := by decide +kernel
theorem dX5_chance_7 : decode cX5_chance 7 = .ok (.if_icmp .gt 13, 3) := by decide +kernel
theorem dX5_chance_10 : decode cX5_chance 10 = .ok (.iload_n 3, 1) := by decide +kernel
theorem dX5_chance_11 : decode cX5_chance 11 = .ok (.ifCond .lt 9, 3) := by decide +kernel
theorem dX5_chance_14 : decode cX5_chance 14 = .ok (.iload_n 3, 1) := by decide +kernel
theorem dX5_chance_15 : decode cX5_chance 15 = .ok (.bipush 10, 2) := by decide +kernel
theorem dX5_chance_17 : decode cX5_chance 17 = .ok (.if_icmp .le 6, 3) := by decide +kernel
theorem dX5_chance_20 : decode cX5_chance 20 = .ok (.bipush (-2), 2) := by decide +kernel
theorem dX5_chance_22 : decode cX5_chance 22 = .ok (.ireturn, 1) := by decide +kernel
theorem dX5_chance_23 : decode cX5_chance 23 = .ok (.iload_n 2, 1) := by decide +kernel
theorem dX5_chance_24 : decode cX5_chance 24 = .ok (.iconst 4, 1) := by decide +kernel
theorem dX5_chance_25 : decode cX5_chance 25 = .ok (.imul, 1) := by decide +kernel
theorem dX5_chance_26 : decode cX5_chance 26 = .ok (.istore 5, 2) := by decide +kernel
theorem dX5_chance_28 : decode cX5_chance 28 = .ok (.iconst 1, 1) := by decide +kernel
theorem dX5_chance_29 : decode cX5_chance 29 = .ok (.istore 6, 2) := by decide +kernel
theorem dX5_chance_31 : decode cX5_chance 31 = .ok (.iconst 0, 1) := by decide +kernel
theorem dX5_chance_32 : decode cX5_chance 32 = .ok (.istore 7, 2) := by decide +kernel
theorem dX5_chance_34 : decode cX5_chance 34 = .ok (.iload 7, 2) := by decide +kernel
theorem dX5_chance_36 : decode cX5_chance 36 = .ok (.iload 5, 2) := by decide +kernel
theorem dX5_chance_38 : decode cX5_chance 38 = .ok (.if_icmp .ge 16, 3) := by decide +kernel
theorem dX5_chance_41 : decode cX5_chance 41 = .ok (.iload 6, 2) := by decide +kernel
theorem dX5_chance_43 : decode cX5_chance 43 = .ok (.bipush 10, 2) := by decide +kernel
theorem dX5_chance_45 : decode cX5_chance 45 = .ok (.imul, 1) := by decide +kernel
theorem dX5_chance_46 : decode cX5_chance 46 = .ok (.istore 6, 2) := by decide +kernel
theorem dX5_chance_48 : decode cX5_chance 48 = .ok (.iinc 7 1, 3) := by decide +kernel
theorem dX5_chance_51 : decode cX5_chance 51 = .ok (.goto (-17), 3) := by decide +kernel
theorem dX5_chance_54 : decode cX5_chance 54 = .ok (.aload_n 0, 1) := by decide +kernel
theorem dX5_chance_55 : decode cX5_chance 55 = .ok (.getfield 45, 3) := by decide +kernel
theorem dX5_chance_58 : decode cX5_chance 58 = .ok (.iconst 0, 1) := by decide +kernel
theorem dX5_chance_59 : decode cX5_chance 59 = .ok (.aaload, 1) := by decide +kernel
theorem dX5_chance_60 : decode cX5_chance 60 = .ok (.aload_n 0, 1) := by decide +kernel
theorem dX5_chance_61 : decode cX5_chance 61 = .ok (.getfield 26, 3) := by decide +kernel
theorem dX5_chance_64 : decode cX5_chance 64 = .ok (.invokevirtual 266, 3) := by decide +kernel
theorem dX5_chance_67 : decode cX5_chance 67 = .ok (.aload_n 0, 1) := by decide +kernel
theorem dX5_chance_68 : decode cX5_chance 68 = .ok (.getfield 19, 3) := by decide +kernel
theorem dX5_chance_71 : decode cX5_chance 71 = .ok (.aload_n 0, 1) := by decide +kernel
theorem dX5_chance_72 : decode cX5_chance 72 = .ok (.getfield 45, 3) := by decide +kernel
theorem dX5_chance_75 : decode cX5_chance 75 = .ok (.aload_n 0, 1) := by decide +kernel
theorem dX5_chance_76 : decode cX5_chance 76 = .ok (.getfield 19, 3) := by decide +kernel
theorem dX5_chance_79 : decode cX5_chance 79 = .ok (.iload_n 1, 1) := by decide +kernel
theorem dX5_chance_80 : decode cX5_chance 80 = .ok (.invokevirtual 232, 3) := by decide +kernel
theorem dX5_chance_83 : decode cX5_chance 83 = .ok (.iload_n 3, 1) := by decide +kernel
theorem dX5_chance_84 : decode cX5_chance 84 = .ok (.iload 5, 2) := by decide +kernel
theorem dX5_chance_86 : decode cX5_chance 86 = .ok (.iconst 0, 1) := by decide +kernel
theorem dX5_chance_87 : decode cX5_chance 87 = .ok (.invokestatic 269, 3) := by decide +kernel
theorem dX5_chance_90 : decode cX5_chance 90 = .ok (.iload 6, 2) := by decide +kernel
theorem dX5_chance_92 : decode cX5_chance 92 = .ok (.iload 4, 2) := by decide +kernel
theorem dX5_chance_94 : decode cX5_chance 94 = .ok (.invokestatic 262, 3) := by decide +kernel
theorem dX5_chance_97 : decode cX5_chance 97 = .ok (.ireturn, 1) := by decide +kernel
theorem dX5_seed_0 : decode cX5_seed 0 = .ok (.aload_n 0, 1) := by decide +kernel
theorem dX5_seed_1 : decode cX5_seed 1 = .ok (.getfield 62, 3) := by decide +kernel
theorem dX5_seed_4 : decode cX5_seed 4 = .ok (.lstore_n 3, 1) := by decide +kernel
theorem dX5_seed_5 : decode cX5_seed 5 = .ok (.aload_n 0, 1) := by decide +kernel
theorem dX5_seed_6 : decode cX5_seed 6 = .ok (.lload_n 1, 1) := by decide +kernel
theorem dX5_seed_7 : decode cX5_seed 7 = .ok (.putfield 62, 3) := by decide +kernel
theorem dX5_seed_10 : decode cX5_seed 10 = .ok (.lload_n 3, 1) := by decide +kernel
theorem dX5_seed_11 : decode cX5_seed 11 = .ok (.lreturn, 1) := by decide +kernel
theorem dX5_drawn_0 : decode cX5_drawn 0 = .ok (.iload_n 1, 1) := by decide +kernel
theorem dX5_drawn_1 : decode cX5_drawn 1 = .ok (.iconst 1, 1) := by decide +kernel
theorem dX5_drawn_2 : decode cX5_drawn 2 = .ok (.if_icmp .lt 9, 3) := by decide +kernel
theorem dX5_drawn_5 : decode cX5_drawn 5 = .ok (.iload_n 1, 1) := by decide +kernel
theorem dX5_drawn_6 : decode cX5_drawn 6 = .ok (.bipush 40, 2) := by decide +kernel
theorem dX5_drawn_8 : decode cX5_drawn 8 = .ok (.if_icmp .le 6, 3) := by decide +kernel
theorem dX5_drawn_11 : decode cX5_drawn 11 = .ok (.bipush (-2), 2) := by decide +kernel
theorem dX5_drawn_13 : decode cX5_drawn 13 = .ok (.ireturn, 1) := by decide +kernel
theorem dX5_drawn_14 : decode cX5_drawn 14 = .ok (.aload_n 0, 1) := by decide +kernel
theorem dX5_drawn_15 : decode cX5_drawn 15 = .ok (.invokevirtual 228, 3) := by decide +kernel
theorem dX5_drawn_18 : decode cX5_drawn 18 = .ok (.astore_n 2, 1) := by decide +kernel
theorem dX5_drawn_19 : decode cX5_drawn 19 = .ok (.iconst 0, 1) := by decide +kernel
theorem dX5_drawn_20 : decode cX5_drawn 20 = .ok (.istore_n 3, 1) := by decide +kernel
theorem dX5_drawn_21 : decode cX5_drawn 21 = .ok (.iconst 0, 1) := by decide +kernel
theorem dX5_drawn_22 : decode cX5_drawn 22 = .ok (.istore 4, 2) := by decide +kernel
theorem dX5_drawn_24 : decode cX5_drawn 24 = .ok (.iload 4, 2) := by decide +kernel
theorem dX5_drawn_26 : decode cX5_drawn 26 = .ok (.iload_n 1, 1) := by decide +kernel
theorem dX5_drawn_27 : decode cX5_drawn 27 = .ok (.if_icmp .ge 59, 3) := by decide +kernel
theorem dX5_drawn_30 : decode cX5_drawn 30 = .ok (.aload_n 0, 1) := by decide +kernel
theorem dX5_drawn_31 : decode cX5_drawn 31 = .ok (.aload_n 0, 1) := by decide +kernel
theorem dX5_drawn_32 : decode cX5_drawn 32 = .ok (.getfield 62, 3) := by decide +kernel
theorem dX5_drawn_35 : decode cX5_drawn 35 = .ok (.ldc2_w 273, 3) := by decide +kernel
theorem dX5_drawn_38 : decode cX5_drawn 38 = .ok (.lmul, 1) := by decide +kernel
theorem dX5_drawn_39 : decode cX5_drawn 39 = .ok (.ldc2_w 275, 3) := by decide +kernel
theorem dX5_drawn_42 : decode cX5_drawn 42 = .ok (.ladd, 1) := by decide +kernel
theorem dX5_drawn_43 : decode cX5_drawn 43 = .ok (.putfield 62, 3) := by decide +kernel
theorem dX5_drawn_46 : decode cX5_drawn 46 = .ok (.aload_n 2, 1) := by decide +kernel
theorem dX5_drawn_47 : decode cX5_drawn 47 = .ok (.aload_n 0, 1) := by decide +kernel
theorem dX5_drawn_48 : decode cX5_drawn 48 = .ok (.getfield 19, 3) := by decide +kernel
theorem dX5_drawn_51 : decode cX5_drawn 51 = .ok (.aload_n 0, 1) := by decide +kernel
theorem dX5_drawn_52 : decode cX5_drawn 52 = .ok (.aload_n 0, 1) := by decide +kernel
theorem dX5_drawn_53 : decode cX5_drawn 53 = .ok (.getfield 62, 3) := by decide +kernel
theorem dX5_drawn_56 : decode cX5_drawn 56 = .ok (.bipush 33, 2) := by decide +kernel
theorem dX5_drawn_58 : decode cX5_drawn 58 = .ok (.lushr, 1) := by decide +kernel
theorem dX5_drawn_59 : decode cX5_drawn 59 = .ok (.l2i, 1) := by decide +kernel
theorem dX5_drawn_60 : decode cX5_drawn 60 = .ok (.iload 4, 2) := by decide +kernel
end
section
theorem dX5_drawn_62 : decode cX5_drawn 62 = .ok (.iconst 3, 1) := by decide +kernel
theorem dX5_drawn_63 : decode cX5_drawn 63 = .ok (.iand, 1) := by decide +kernel
theorem dX5_drawn_64 : decode cX5_drawn 64 = .ok (.invokevirtual 277, 3) := by decide +kernel
theorem dX5_drawn_67 : decode cX5_drawn 67 = .ok (.i2l, 1) := by decide +kernel
theorem dX5_drawn_68 : decode cX5_drawn 68 = .ok (.bipush 14, 2) := by decide +kernel
theorem dX5_drawn_70 : decode cX5_drawn 70 = .ok (.invokevirtual 204, 3) := by decide +kernel
theorem dX5_drawn_73 : decode cX5_drawn 73 = .ok (.iload_n 3, 1) := by decide +kernel
theorem dX5_drawn_74 : decode cX5_drawn 74 = .ok (.aload_n 2, 1) := by decide +kernel
theorem dX5_drawn_75 : decode cX5_drawn 75 = .ok (.invokevirtual 208, 3) := by decide +kernel
theorem dX5_drawn_78 : decode cX5_drawn 78 = .ok (.iadd, 1) := by decide +kernel
theorem dX5_drawn_79 : decode cX5_drawn 79 = .ok (.istore_n 3, 1) := by decide +kernel
theorem dX5_drawn_80 : decode cX5_drawn 80 = .ok (.iinc 4 1, 3) := by decide +kernel
theorem dX5_drawn_83 : decode cX5_drawn 83 = .ok (.goto (-59), 3) := by decide +kernel
theorem dX5_drawn_86 : decode cX5_drawn 86 = .ok (.iload_n 3, 1) := by decide +kernel
theorem dX5_drawn_87 : decode cX5_drawn 87 = .ok (.ireturn, 1) := by decide +kernel
theorem dX5_keep_0 : decode cX5_keep 0 = .ok (.iload_n 1, 1) := by decide +kernel
theorem dX5_keep_1 : decode cX5_keep 1 = .ok (.invokestatic 280, 3) := by decide +kernel
theorem dX5_keep_4 : decode cX5_keep 4 = .ok (.ifCond .ne 5, 3) := by decide +kernel
theorem dX5_keep_7 : decode cX5_keep 7 = .ok (.iconst (-1), 1) := by decide +kernel
theorem dX5_keep_8 : decode cX5_keep 8 = .ok (.ireturn, 1) := by decide +kernel
theorem dX5_keep_9 : decode cX5_keep 9 = .ok (.aload_n 0, 1) := by decide +kernel
theorem dX5_keep_10 : decode cX5_keep 10 = .ok (.getfield 37, 3) := by decide +kernel
theorem dX5_keep_13 : decode cX5_keep 13 = .ok (.iload_n 1, 1) := by decide +kernel
theorem dX5_keep_14 : decode cX5_keep 14 = .ok (.aaload, 1) := by decide +kernel
theorem dX5_keep_15 : decode cX5_keep 15 = .ok (.aload_n 0, 1) := by decide +kernel
theorem dX5_keep_16 : decode cX5_keep 16 = .ok (.getfield 26, 3) := by decide +kernel
theorem dX5_keep_19 : decode cX5_keep 19 = .ok (.invokevirtual 266, 3) := by decide +kernel
theorem dX5_keep_22 : decode cX5_keep 22 = .ok (.aload_n 0, 1) := by decide +kernel
theorem dX5_keep_23 : decode cX5_keep 23 = .ok (.getfield 41, 3) := by decide +kernel
theorem dX5_keep_26 : decode cX5_keep 26 = .ok (.iload_n 1, 1) := by decide +kernel
theorem dX5_keep_27 : decode cX5_keep 27 = .ok (.iconst 1, 1) := by decide +kernel
theorem dX5_keep_28 : decode cX5_keep 28 = .ok (.bastore, 1) := by decide +kernel
theorem dX5_keep_29 : decode cX5_keep 29 = .ok (.aload_n 0, 1) := by decide +kernel
theorem dX5_keep_30 : decode cX5_keep 30 = .ok (.getfield 26, 3) := by decide +kernel
theorem dX5_keep_33 : decode cX5_keep 33 = .ok (.getfield 283, 3) := by decide +kernel
theorem dX5_keep_36 : decode cX5_keep 36 = .ok (.ireturn, 1) := by decide +kernel
theorem dX5_again_0 : decode cX5_again 0 = .ok (.iload_n 1, 1) := by decide +kernel
theorem dX5_again_1 : decode cX5_again 1 = .ok (.invokestatic 280, 3) := by decide +kernel
theorem dX5_again_4 : decode cX5_again 4 = .ok (.ifCond .ne 5, 3) := by decide +kernel
theorem dX5_again_7 : decode cX5_again 7 = .ok (.iconst (-1), 1) := by decide +kernel
theorem dX5_again_8 : decode cX5_again 8 = .ok (.ireturn, 1) := by decide +kernel
theorem dX5_again_9 : decode cX5_again 9 = .ok (.aload_n 0, 1) := by decide +kernel
theorem dX5_again_10 : decode cX5_again 10 = .ok (.getfield 41, 3) := by decide +kernel
theorem dX5_again_13 : decode cX5_again 13 = .ok (.iload_n 1, 1) := by decide +kernel
theorem dX5_again_14 : decode cX5_again 14 = .ok (.baload, 1) := by decide +kernel
theorem dX5_again_15 : decode cX5_again 15 = .ok (.ifCond .ne 6, 3) := by decide +kernel
theorem dX5_again_18 : decode cX5_again 18 = .ok (.bipush (-3), 2) := by decide +kernel
theorem dX5_again_20 : decode cX5_again 20 = .ok (.ireturn, 1) := by decide +kernel
theorem dX5_again_21 : decode cX5_again 21 = .ok (.aload_n 0, 1) := by decide +kernel
theorem dX5_again_22 : decode cX5_again 22 = .ok (.getfield 26, 3) := by decide +kernel
theorem dX5_again_25 : decode cX5_again 25 = .ok (.aload_n 0, 1) := by decide +kernel
theorem dX5_again_26 : decode cX5_again 26 = .ok (.getfield 37, 3) := by decide +kernel
theorem dX5_again_29 : decode cX5_again 29 = .ok (.iload_n 1, 1) := by decide +kernel
theorem dX5_again_30 : decode cX5_again 30 = .ok (.aaload, 1) := by decide +kernel
theorem dX5_again_31 : decode cX5_again 31 = .ok (.invokevirtual 266, 3) := by decide +kernel
theorem dX5_again_34 : decode cX5_again 34 = .ok (.aload_n 0, 1) := by decide +kernel
theorem dX5_again_35 : decode cX5_again 35 = .ok (.getfield 33, 3) := by decide +kernel
theorem dX5_again_38 : decode cX5_again 38 = .ok (.invokevirtual 84, 3) := by decide +kernel
theorem dX5_again_41 : decode cX5_again 41 = .ok (.aload_n 0, 1) := by decide +kernel
theorem dX5_again_42 : decode cX5_again 42 = .ok (.getfield 26, 3) := by decide +kernel
theorem dX5_again_45 : decode cX5_again 45 = .ok (.getfield 283, 3) := by decide +kernel
theorem dX5_again_48 : decode cX5_again 48 = .ok (.ireturn, 1) := by decide +kernel
theorem dX5_isOffset_0 : decode cX5_isOffset 0 = .ok (.iload_n 0, 1) := by decide +kernel
theorem dX5_isOffset_1 : decode cX5_isOffset 1 = .ok (.ifCond .lt 12, 3) := by decide +kernel
theorem dX5_isOffset_4 : decode cX5_isOffset 4 = .ok (.iload_n 0, 1) := by decide +kernel
theorem dX5_isOffset_5 : decode cX5_isOffset 5 = .ok (.iconst 4, 1) := by decide +kernel
theorem dX5_isOffset_6 : decode cX5_isOffset 6 = .ok (.if_icmp .ge 7, 3) := by decide +kernel
theorem dX5_isOffset_9 : decode cX5_isOffset 9 = .ok (.iconst 1, 1) := by decide +kernel
theorem dX5_isOffset_10 : decode cX5_isOffset 10 = .ok (.goto 4, 3) := by decide +kernel
theorem dX5_isOffset_13 : decode cX5_isOffset 13 = .ok (.iconst 0, 1) := by decide +kernel
theorem dX5_isOffset_14 : decode cX5_isOffset 14 = .ok (.ireturn, 1) := by decide +kernel
theorem dX5_isPlace_0 : decode cX5_isPlace 0 = .ok (.iload_n 0, 1) := by decide +kernel
theorem dX5_isPlace_1 : decode cX5_isPlace 1 = .ok (.ifCond .lt 12, 3) := by decide +kernel
theorem dX5_isPlace_4 : decode cX5_isPlace 4 = .ok (.iload_n 0, 1) := by decide +kernel
theorem dX5_isPlace_5 : decode cX5_isPlace 5 = .ok (.iconst 4, 1) := by decide +kernel
theorem dX5_isPlace_6 : decode cX5_isPlace 6 = .ok (.if_icmp .ge 7, 3) := by decide +kernel
theorem dX5_isPlace_9 : decode cX5_isPlace 9 = .ok (.iconst 1, 1) := by decide +kernel
theorem dX5_isPlace_10 : decode cX5_isPlace 10 = .ok (.goto 4, 3) := by decide +kernel
theorem dX5_isPlace_13 : decode cX5_isPlace 13 = .ok (.iconst 0, 1) := by decide +kernel
theorem dX5_isPlace_14 : decode cX5_isPlace 14 = .ok (.ireturn, 1) := by decide +kernel
theorem dX5_isSlot_0 : decode cX5_isSlot 0 = .ok (.iload_n 0, 1) := by decide +kernel
theorem dX5_isSlot_1 : decode cX5_isSlot 1 = .ok (.ifCond .lt 12, 3) := by decide +kernel
theorem dX5_isSlot_4 : decode cX5_isSlot 4 = .ok (.iload_n 0, 1) := by decide +kernel
theorem dX5_isSlot_5 : decode cX5_isSlot 5 = .ok (.iconst 2, 1) := by decide +kernel
theorem dX5_isSlot_6 : decode cX5_isSlot 6 = .ok (.if_icmp .ge 7, 3) := by decide +kernel
theorem dX5_isSlot_9 : decode cX5_isSlot 9 = .ok (.iconst 1, 1) := by decide +kernel
theorem dX5_isSlot_10 : decode cX5_isSlot 10 = .ok (.goto 4, 3) := by decide +kernel
theorem dX5_isSlot_13 : decode cX5_isSlot 13 = .ok (.iconst 0, 1) := by decide +kernel
theorem dX5_isSlot_14 : decode cX5_isSlot 14 = .ok (.ireturn, 1) := by decide +kernel
theorem dX5_isByte_0 : decode cX5_isByte 0 = .ok (.iload_n 0, 1) := by decide +kernel
theorem dX5_isByte_1 : decode cX5_isByte 1 = .ok (.ifCond .lt 14, 3) := by decide +kernel
theorem dX5_isByte_4 : decode cX5_isByte 4 = .ok (.iload_n 0, 1) := by decide +kernel
theorem dX5_isByte_5 : decode cX5_isByte 5 = .ok (.sipush 256, 3) := by decide +kernel
theorem dX5_isByte_8 : decode cX5_isByte 8 = .ok (.if_icmp .ge 7, 3) := by decide +kernel
theorem dX5_isByte_11 : decode cX5_isByte 11 = .ok (.iconst 1, 1) := by decide +kernel
theorem dX5_isByte_12 : decode cX5_isByte 12 = .ok (.goto 4, 3) := by decide +kernel
theorem dX5_isByte_15 : decode cX5_isByte 15 = .ok (.iconst 0, 1) := by decide +kernel
theorem dX5_isByte_16 : decode cX5_isByte 16 = .ok (.ireturn, 1) := by decide +kernel
theorem dX5_isWord_0 : decode cX5_isWord 0 = .ok (.iload_n 0, 1) := by decide +kernel
theorem dX5_isWord_1 : decode cX5_isWord 1 = .ok (.ifCond .lt 14, 3) := by decide +kernel
theorem dX5_isWord_4 : decode cX5_isWord 4 = .ok (.iload_n 0, 1) := by decide +kernel
theorem dX5_isWord_5 : decode cX5_isWord 5 = .ok (.sipush 16383, 3) := by decide +kernel
theorem dX5_isWord_8 : decode cX5_isWord 8 = .ok (.if_icmp .gt 7, 3) := by decide +kernel
theorem dX5_isWord_11 : decode cX5_isWord 11 = .ok (.iconst 1, 1) := by decide +kernel
theorem dX5_isWord_12 : decode cX5_isWord 12 = .ok (.goto 4, 3) := by decide +kernel
theorem dX5_isWord_15 : decode cX5_isWord 15 = .ok (.iconst 0, 1) := by decide +kernel
theorem dX5_isWord_16 : decode cX5_isWord 16 = .ok (.ireturn, 1) := by decide +kernel
theorem dX5_nextOffset_0 : decode cX5_nextOffset 0 = .ok (.iload_n 0, 1) := by decide +kernel
theorem dX5_nextOffset_1 : decode cX5_nextOffset 1 = .ok (.iconst 1, 1) := by decide +kernel
theorem dX5_nextOffset_2 : decode cX5_nextOffset 2 = .ok (.iadd, 1) := by decide +kernel
theorem dX5_nextOffset_3 : decode cX5_nextOffset 3 = .ok (.iconst 3, 1) := by decide +kernel
theorem dX5_nextOffset_4 : decode cX5_nextOffset 4 = .ok (.iand, 1) := by decide +kernel
theorem dX5_nextOffset_5 : decode cX5_nextOffset 5 = .ok (.ireturn, 1) := by decide +kernel
theorem dX5_presentBits_0 : decode cX5_presentBits 0 = .ok (.iconst 0, 1) := by decide +kernel
theorem dX5_presentBits_1 : decode cX5_presentBits 1 = .ok (.istore_n 1, 1) := by decide +kernel
theorem dX5_presentBits_2 : decode cX5_presentBits 2 = .ok (.iconst 0, 1) := by decide +kernel
theorem dX5_presentBits_3 : decode cX5_presentBits 3 = .ok (.istore_n 2, 1) := by decide +kernel
theorem dX5_presentBits_4 : decode cX5_presentBits 4 = .ok (.iload_n 2, 1) := by decide +kernel
theorem dX5_presentBits_5 : decode cX5_presentBits 5 = .ok (.aload_n 0, 1) := by decide +kernel
theorem dX5_presentBits_6 : decode cX5_presentBits 6 = .ok (.arraylength, 1) := by decide +kernel
theorem dX5_presentBits_7 : decode cX5_presentBits 7 = .ok (.if_icmp .ge 23, 3) := by decide +kernel
theorem dX5_presentBits_10 : decode cX5_presentBits 10 = .ok (.aload_n 0, 1) := by decide +kernel
theorem dX5_presentBits_11 : decode cX5_presentBits 11 = .ok (.iload_n 2, 1) := by decide +kernel
theorem dX5_presentBits_12 : decode cX5_presentBits 12 = .ok (.iaload, 1) := by decide +kernel
theorem dX5_presentBits_13 : decode cX5_presentBits 13 = .ok (.bipush (-9), 2) := by decide +kernel
theorem dX5_presentBits_15 : decode cX5_presentBits 15 = .ok (.if_icmp .eq 9, 3) := by decide +kernel
theorem dX5_presentBits_18 : decode cX5_presentBits 18 = .ok (.iload_n 1, 1) := by decide +kernel
theorem dX5_presentBits_19 : decode cX5_presentBits 19 = .ok (.iconst 1, 1) := by decide +kernel
theorem dX5_presentBits_20 : decode cX5_presentBits 20 = .ok (.iload_n 2, 1) := by decide +kernel
theorem dX5_presentBits_21 : decode cX5_presentBits 21 = .ok (.ishl, 1) := by decide +kernel
theorem dX5_presentBits_22 : decode cX5_presentBits 22 = .ok (.ior, 1) := by decide +kernel
theorem dX5_presentBits_23 : decode cX5_presentBits 23 = .ok (.istore_n 1, 1) := by decide +kernel
theorem dX5_presentBits_24 : decode cX5_presentBits 24 = .ok (.iinc 2 1, 3) := by decide +kernel
theorem dX5_presentBits_27 : decode cX5_presentBits 27 = .ok (.goto (-23), 3) := by decide +kernel
theorem dX5_presentBits_30 : decode cX5_presentBits 30 = .ok (.iload_n 1, 1) := by decide +kernel
theorem dX5_presentBits_31 : decode cX5_presentBits 31 = .ok (.ireturn, 1) := by decide +kernel
theorem dX5_freshTrial_0 : decode cX5_freshTrial 0 = .ok (.aload_n 0, 1) := by decide +kernel
theorem dX5_freshTrial_1 : decode cX5_freshTrial 1 = .ok (.getfield 45, 3) := by decide +kernel
theorem dX5_freshTrial_4 : decode cX5_freshTrial 4 = .ok (.iconst 0, 1) := by decide +kernel
theorem dX5_freshTrial_5 : decode cX5_freshTrial 5 = .ok (.aaload, 1) := by decide +kernel
theorem dX5_freshTrial_6 : decode cX5_freshTrial 6 = .ok (.aload_n 0, 1) := by decide +kernel
theorem dX5_freshTrial_7 : decode cX5_freshTrial 7 = .ok (.getfield 26, 3) := by decide +kernel
theorem dX5_freshTrial_10 : decode cX5_freshTrial 10 = .ok (.invokevirtual 266, 3) := by decide +kernel
theorem dX5_freshTrial_13 : decode cX5_freshTrial 13 = .ok (.aload_n 0, 1) := by decide +kernel
theorem dX5_freshTrial_14 : decode cX5_freshTrial 14 = .ok (.getfield 45, 3) := by decide +kernel
theorem dX5_freshTrial_17 : decode cX5_freshTrial 17 = .ok (.iconst 0, 1) := by decide +kernel
theorem dX5_freshTrial_18 : decode cX5_freshTrial 18 = .ok (.aaload, 1) := by decide +kernel
theorem dX5_freshTrial_19 : decode cX5_freshTrial 19 = .ok (.areturn, 1) := by decide +kernel
theorem dX5_hearGroups_0 : decode cX5_hearGroups 0 = .ok (.aload_n 0, 1) := by decide +kernel
theorem dX5_hearGroups_1 : decode cX5_hearGroups 1 = .ok (.getfield 19, 3) := by decide +kernel
theorem dX5_hearGroups_4 : decode cX5_hearGroups 4 = .ok (.iload_n 2, 1) := by decide +kernel
theorem dX5_hearGroups_5 : decode cX5_hearGroups 5 = .ok (.invokevirtual 232, 3) := by decide +kernel
theorem dX5_hearGroups_8 : decode cX5_hearGroups 8 = .ok (.lstore 4, 2) := by decide +kernel
theorem dX5_hearGroups_10 : decode cX5_hearGroups 10 = .ok (.iconst 0, 1) := by decide +kernel
theorem dX5_hearGroups_11 : decode cX5_hearGroups 11 = .ok (.istore 6, 2) := by decide +kernel
theorem dX5_hearGroups_13 : decode cX5_hearGroups 13 = .ok (.iload 6, 2) := by decide +kernel
theorem dX5_hearGroups_15 : decode cX5_hearGroups 15 = .ok (.iload_n 3, 1) := by decide +kernel
theorem dX5_hearGroups_16 : decode cX5_hearGroups 16 = .ok (.if_icmp .ge 21, 3) := by decide +kernel
theorem dX5_hearGroups_19 : decode cX5_hearGroups 19 = .ok (.aload_n 1, 1) := by decide +kernel
theorem dX5_hearGroups_20 : decode cX5_hearGroups 20 = .ok (.aload_n 0, 1) := by decide +kernel
theorem dX5_hearGroups_21 : decode cX5_hearGroups 21 = .ok (.getfield 19, 3) := by decide +kernel
theorem dX5_hearGroups_24 : decode cX5_hearGroups 24 = .ok (.lload 4, 2) := by decide +kernel
theorem dX5_hearGroups_26 : decode cX5_hearGroups 26 = .ok (.bipush 56, 2) := by decide +kernel
theorem dX5_hearGroups_28 : decode cX5_hearGroups 28 = .ok (.invokevirtual 204, 3) := by decide +kernel
theorem dX5_hearGroups_31 : decode cX5_hearGroups 31 = .ok (.iinc 6 1, 3) := by decide +kernel
theorem dX5_hearGroups_34 : decode cX5_hearGroups 34 = .ok (.goto (-21), 3) := by decide +kernel
theorem dX5_hearGroups_37 : decode cX5_hearGroups 37 = .ok (.return_, 1) := by decide +kernel
theorem dX5_withoutLast_0 : decode cX5_withoutLast 0 = .ok (.lload_n 0, 1) := by decide +kernel
theorem dX5_withoutLast_1 : decode cX5_withoutLast 1 = .ok (.lstore_n 3, 1) := by decide +kernel
theorem dX5_withoutLast_2 : decode cX5_withoutLast 2 = .ok (.iconst 0, 1) := by decide +kernel
theorem dX5_withoutLast_3 : decode cX5_withoutLast 3 = .ok (.istore 5, 2) := by decide +kernel
theorem dX5_withoutLast_5 : decode cX5_withoutLast 5 = .ok (.iload 5, 2) := by decide +kernel
theorem dX5_withoutLast_7 : decode cX5_withoutLast 7 = .ok (.iload_n 2, 1) := by decide +kernel
theorem dX5_withoutLast_8 : decode cX5_withoutLast 8 = .ok (.if_icmp .ge 15, 3) := by decide +kernel
theorem dX5_withoutLast_11 : decode cX5_withoutLast 11 = .ok (.lload_n 3, 1) := by decide +kernel
theorem dX5_withoutLast_12 : decode cX5_withoutLast 12 = .ok (.ldc2_w 244, 3) := by decide +kernel
theorem dX5_withoutLast_15 : decode cX5_withoutLast 15 = .ok (.ldiv, 1) := by decide +kernel
theorem dX5_withoutLast_16 : decode cX5_withoutLast 16 = .ok (.lstore_n 3, 1) := by decide +kernel
theorem dX5_withoutLast_17 : decode cX5_withoutLast 17 = .ok (.iinc 5 1, 3) := by decide +kernel
theorem dX5_withoutLast_20 : decode cX5_withoutLast 20 = .ok (.goto (-15), 3) := by decide +kernel
theorem dX5_withoutLast_23 : decode cX5_withoutLast 23 = .ok (.lload_n 3, 1) := by decide +kernel
theorem dX5_withoutLast_24 : decode cX5_withoutLast 24 = .ok (.lreturn, 1) := by decide +kernel
theorem dX5_isSo_0 : decode cX5_isSo 0 = .ok (.iload_n 2, 1) := by decide +kernel
theorem dX5_isSo_1 : decode cX5_isSo 1 = .ok (.sipush 10000, 3) := by decide +kernel
theorem dX5_isSo_4 : decode cX5_isSo 4 = .ok (.idiv, 1) := by decide +kernel
theorem dX5_isSo_5 : decode cX5_isSo 5 = .ok (.istore_n 3, 1) := by decide +kernel
theorem dX5_isSo_6 : decode cX5_isSo 6 = .ok (.iload_n 2, 1) := by decide +kernel
theorem dX5_isSo_7 : decode cX5_isSo 7 = .ok (.sipush 1000, 3) := by decide +kernel
theorem dX5_isSo_10 : decode cX5_isSo 10 = .ok (.idiv, 1) := by decide +kernel
theorem dX5_isSo_11 : decode cX5_isSo 11 = .ok (.bipush 10, 2) := by decide +kernel
theorem dX5_isSo_13 : decode cX5_isSo 13 = .ok (.irem, 1) := by decide +kernel
theorem dX5_isSo_14 : decode cX5_isSo 14 = .ok (.istore 4, 2) := by decide +kernel
theorem dX5_isSo_16 : decode cX5_isSo 16 = .ok (.iload_n 2, 1) := by decide +kernel
theorem dX5_isSo_17 : decode cX5_isSo 17 = .ok (.sipush 1000, 3) := by decide +kernel
theorem dX5_isSo_20 : decode cX5_isSo 20 = .ok (.irem, 1) := by decide +kernel
theorem dX5_isSo_21 : decode cX5_isSo 21 = .ok (.istore 5, 2) := by decide +kernel
theorem dX5_isSo_23 : decode cX5_isSo 23 = .ok (.iload_n 3, 1) := by decide +kernel
theorem dX5_isSo_24 : decode cX5_isSo 24 = .ok (.tableswitch 165 1 6 #[40, 50, 56, 76, 116, 142], 40) := by decide +kernel
theorem dX5_isSo_64 : decode cX5_isSo 64 = .ok (.aload_n 0, 1) := by decide +kernel
theorem dX5_isSo_65 : decode cX5_isSo 65 = .ok (.aload_n 1, 1) := by decide +kernel
theorem dX5_isSo_66 : decode cX5_isSo 66 = .ok (.iload 4, 2) := by decide +kernel
theorem dX5_isSo_68 : decode cX5_isSo 68 = .ok (.iload 5, 2) := by decide +kernel
theorem dX5_isSo_70 : decode cX5_isSo 70 = .ok (.invokevirtual 286, 3) := by decide +kernel
theorem dX5_isSo_73 : decode cX5_isSo 73 = .ok (.ireturn, 1) := by decide +kernel
theorem dX5_isSo_74 : decode cX5_isSo 74 = .ok (.aload_n 1, 1) := by decide +kernel
theorem dX5_isSo_75 : decode cX5_isSo 75 = .ok (.iload_n 2, 1) := by decide +kernel
theorem dX5_isSo_76 : decode cX5_isSo 76 = .ok (.invokestatic 290, 3) := by decide +kernel
theorem dX5_isSo_79 : decode cX5_isSo 79 = .ok (.ireturn, 1) := by decide +kernel
theorem dX5_isSo_80 : decode cX5_isSo 80 = .ok (.iload 5, 2) := by decide +kernel
theorem dX5_isSo_82 : decode cX5_isSo 82 = .ok (.ifCond .ne 16, 3) := by decide +kernel
theorem dX5_isSo_85 : decode cX5_isSo 85 = .ok (.iload 4, 2) := by decide +kernel
theorem dX5_isSo_87 : decode cX5_isSo 87 = .ok (.aload_n 1, 1) := by decide +kernel
theorem dX5_isSo_88 : decode cX5_isSo 88 = .ok (.invokevirtual 208, 3) := by decide +kernel
theorem dX5_isSo_91 : decode cX5_isSo 91 = .ok (.if_icmp .ne 7, 3) := by decide +kernel
theorem dX5_isSo_94 : decode cX5_isSo 94 = .ok (.iconst 1, 1) := by decide +kernel
theorem dX5_isSo_95 : decode cX5_isSo 95 = .ok (.goto 4, 3) := by decide +kernel
theorem dX5_isSo_98 : decode cX5_isSo 98 = .ok (.iconst 0, 1) := by decide +kernel
theorem dX5_isSo_99 : decode cX5_isSo 99 = .ok (.ireturn, 1) := by decide +kernel
theorem dX5_isSo_100 : decode cX5_isSo 100 = .ok (.iload 4, 2) := by decide +kernel
theorem dX5_isSo_102 : decode cX5_isSo 102 = .ok (.invokestatic 146, 3) := by decide +kernel
theorem dX5_isSo_105 : decode cX5_isSo 105 = .ok (.ifCond .eq 33, 3) := by decide +kernel
theorem dX5_isSo_108 : decode cX5_isSo 108 = .ok (.iload 5, 2) := by decide +kernel
theorem dX5_isSo_110 : decode cX5_isSo 110 = .ok (.aload_n 1, 1) := by decide +kernel
theorem dX5_isSo_111 : decode cX5_isSo 111 = .ok (.getfield 115, 3) := by decide +kernel
theorem dX5_isSo_114 : decode cX5_isSo 114 = .ok (.getfield 136, 3) := by decide +kernel
theorem dX5_isSo_117 : decode cX5_isSo 117 = .ok (.iload 4, 2) := by decide +kernel
theorem dX5_isSo_119 : decode cX5_isSo 119 = .ok (.iaload, 1) := by decide +kernel
theorem dX5_isSo_120 : decode cX5_isSo 120 = .ok (.bipush (-9), 2) := by decide +kernel
theorem dX5_isSo_122 : decode cX5_isSo 122 = .ok (.if_icmp .ne 7, 3) := by decide +kernel
theorem dX5_isSo_125 : decode cX5_isSo 125 = .ok (.iconst 0, 1) := by decide +kernel
theorem dX5_isSo_126 : decode cX5_isSo 126 = .ok (.goto 5, 3) := by decide +kernel
theorem dX5_isSo_129 : decode cX5_isSo 129 = .ok (.bipush 100, 2) := by decide +kernel
theorem dX5_isSo_131 : decode cX5_isSo 131 = .ok (.if_icmp .ne 7, 3) := by decide +kernel
theorem dX5_isSo_134 : decode cX5_isSo 134 = .ok (.iconst 1, 1) := by decide +kernel
theorem dX5_isSo_135 : decode cX5_isSo 135 = .ok (.goto 4, 3) := by decide +kernel
theorem dX5_isSo_138 : decode cX5_isSo 138 = .ok (.iconst 0, 1) := by decide +kernel
theorem dX5_isSo_139 : decode cX5_isSo 139 = .ok (.ireturn, 1) := by decide +kernel
theorem dX5_isSo_140 : decode cX5_isSo 140 = .ok (.iload 4, 2) := by decide +kernel
theorem dX5_isSo_142 : decode cX5_isSo 142 = .ok (.invokestatic 109, 3) := by decide +kernel
theorem dX5_isSo_145 : decode cX5_isSo 145 = .ok (.ifCond .eq 19, 3) := by decide +kernel
theorem dX5_isSo_148 : decode cX5_isSo 148 = .ok (.aload_n 1, 1) := by decide +kernel
theorem dX5_isSo_149 : decode cX5_isSo 149 = .ok (.getfield 143, 3) := by decide +kernel
theorem dX5_isSo_152 : decode cX5_isSo 152 = .ok (.iload 4, 2) := by decide +kernel
theorem dX5_isSo_154 : decode cX5_isSo 154 = .ok (.iaload, 1) := by decide +kernel
theorem dX5_isSo_155 : decode cX5_isSo 155 = .ok (.iload 5, 2) := by decide +kernel
theorem dX5_isSo_157 : decode cX5_isSo 157 = .ok (.if_icmp .ne 7, 3) := by decide +kernel
theorem dX5_isSo_160 : decode cX5_isSo 160 = .ok (.iconst 1, 1) := by decide +kernel
theorem dX5_isSo_161 : decode cX5_isSo 161 = .ok (.goto 4, 3) := by decide +kernel
theorem dX5_isSo_164 : decode cX5_isSo 164 = .ok (.iconst 0, 1) := by decide +kernel
theorem dX5_isSo_165 : decode cX5_isSo 165 = .ok (.ireturn, 1) := by decide +kernel
theorem dX5_isSo_166 : decode cX5_isSo 166 = .ok (.iload 4, 2) := by decide +kernel
theorem dX5_isSo_168 : decode cX5_isSo 168 = .ok (.ifCond .ne 19, 3) := by decide +kernel
theorem dX5_isSo_171 : decode cX5_isSo 171 = .ok (.aload_n 1, 1) := by decide +kernel
theorem dX5_isSo_172 : decode cX5_isSo 172 = .ok (.getfield 115, 3) := by decide +kernel
theorem dX5_isSo_175 : decode cX5_isSo 175 = .ok (.getfield 119, 3) := by decide +kernel
theorem dX5_isSo_178 : decode cX5_isSo 178 = .ok (.iload 5, 2) := by decide +kernel
theorem dX5_isSo_180 : decode cX5_isSo 180 = .ok (.if_icmp .ne 7, 3) := by decide +kernel
theorem dX5_isSo_183 : decode cX5_isSo 183 = .ok (.iconst 1, 1) := by decide +kernel
theorem dX5_isSo_184 : decode cX5_isSo 184 = .ok (.goto 4, 3) := by decide +kernel
theorem dX5_isSo_187 : decode cX5_isSo 187 = .ok (.iconst 0, 1) := by decide +kernel
theorem dX5_isSo_188 : decode cX5_isSo 188 = .ok (.ireturn, 1) := by decide +kernel
theorem dX5_isSo_189 : decode cX5_isSo 189 = .ok (.iconst 0, 1) := by decide +kernel
theorem dX5_isSo_190 : decode cX5_isSo 190 = .ok (.ireturn, 1) := by decide +kernel
theorem dX5_canHear_0 : decode cX5_canHear 0 = .ok (.iload_n 2, 1) := by decide +kernel
theorem dX5_canHear_1 : decode cX5_canHear 1 = .ok (.invokestatic 109, 3) := by decide +kernel
theorem dX5_canHear_4 : decode cX5_canHear 4 = .ok (.ifCond .eq 10, 3) := by decide +kernel
theorem dX5_canHear_7 : decode cX5_canHear 7 = .ok (.iload_n 3, 1) := by decide +kernel
theorem dX5_canHear_8 : decode cX5_canHear 8 = .ok (.invokestatic 161, 3) := by decide +kernel
theorem dX5_canHear_11 : decode cX5_canHear 11 = .ok (.ifCond .ne 5, 3) := by decide +kernel
theorem dX5_canHear_14 : decode cX5_canHear 14 = .ok (.iconst 0, 1) := by decide +kernel
theorem dX5_canHear_15 : decode cX5_canHear 15 = .ok (.ireturn, 1) := by decide +kernel
theorem dX5_canHear_16 : decode cX5_canHear 16 = .ok (.aload_n 1, 1) := by decide +kernel
theorem dX5_canHear_17 : decode cX5_canHear 17 = .ok (.aload_n 0, 1) := by decide +kernel
theorem dX5_canHear_18 : decode cX5_canHear 18 = .ok (.getfield 19, 3) := by decide +kernel
theorem dX5_canHear_21 : decode cX5_canHear 21 = .ok (.aload_n 0, 1) := by decide +kernel
theorem dX5_canHear_22 : decode cX5_canHear 22 = .ok (.getfield 19, 3) := by decide +kernel
theorem dX5_canHear_25 : decode cX5_canHear 25 = .ok (.iload_n 2, 1) := by decide +kernel
theorem dX5_canHear_26 : decode cX5_canHear 26 = .ok (.iload_n 3, 1) := by decide +kernel
theorem dX5_canHear_27 : decode cX5_canHear 27 = .ok (.invokevirtual 164, 3) := by decide +kernel
theorem dX5_canHear_30 : decode cX5_canHear 30 = .ok (.i2l, 1) := by decide +kernel
theorem dX5_canHear_31 : decode cX5_canHear 31 = .ok (.bipush 14, 2) := by decide +kernel
theorem dX5_canHear_33 : decode cX5_canHear 33 = .ok (.invokevirtual 204, 3) := by decide +kernel
theorem dX5_canHear_36 : decode cX5_canHear 36 = .ok (.iconst 1, 1) := by decide +kernel
theorem dX5_canHear_37 : decode cX5_canHear 37 = .ok (.ireturn, 1) := by decide +kernel
theorem dX5_canReset_0 : decode cX5_canReset 0 = .ok (.iload_n 1, 1) := by decide +kernel
theorem dX5_canReset_1 : decode cX5_canReset 1 = .ok (.sipush 20000, 3) := by decide +kernel
theorem dX5_canReset_4 : decode cX5_canReset 4 = .ok (.if_icmp .eq 5, 3) := by decide +kernel
theorem dX5_canReset_7 : decode cX5_canReset 7 = .ok (.iconst 0, 1) := by decide +kernel
theorem dX5_canReset_8 : decode cX5_canReset 8 = .ok (.ireturn, 1) := by decide +kernel
theorem dX5_canReset_9 : decode cX5_canReset 9 = .ok (.aload_n 0, 1) := by decide +kernel
theorem dX5_canReset_10 : decode cX5_canReset 10 = .ok (.invokevirtual 221, 3) := by decide +kernel
theorem dX5_canReset_13 : decode cX5_canReset 13 = .ok (.iconst 1, 1) := by decide +kernel
theorem dX5_canReset_14 : decode cX5_canReset 14 = .ok (.ireturn, 1) := by decide +kernel
theorem dX5_placesFitting_0 : decode cX5_placesFitting 0 = .ok (.aload_n 0, 1) := by decide +kernel
theorem dX5_placesFitting_1 : decode cX5_placesFitting 1 = .ok (.getfield 19, 3) := by decide +kernel
theorem dX5_placesFitting_4 : decode cX5_placesFitting 4 = .ok (.aload_n 0, 1) := by decide +kernel
theorem dX5_placesFitting_5 : decode cX5_placesFitting 5 = .ok (.getfield 48, 3) := by decide +kernel
theorem dX5_placesFitting_8 : decode cX5_placesFitting 8 = .ok (.iload_n 1, 1) := by decide +kernel
theorem dX5_placesFitting_9 : decode cX5_placesFitting 9 = .ok (.iaload, 1) := by decide +kernel
theorem dX5_placesFitting_10 : decode cX5_placesFitting 10 = .ok (.invokevirtual 232, 3) := by decide +kernel
theorem dX5_placesFitting_13 : decode cX5_placesFitting 13 = .ok (.lstore 4, 2) := by decide +kernel
theorem dX5_placesFitting_15 : decode cX5_placesFitting 15 = .ok (.aload_n 0, 1) := by decide +kernel
theorem dX5_placesFitting_16 : decode cX5_placesFitting 16 = .ok (.getfield 26, 3) := by decide +kernel
theorem dX5_placesFitting_19 : decode cX5_placesFitting 19 = .ok (.aload_n 0, 1) := by decide +kernel
theorem dX5_placesFitting_20 : decode cX5_placesFitting 20 = .ok (.getfield 52, 3) := by decide +kernel
theorem dX5_placesFitting_23 : decode cX5_placesFitting 23 = .ok (.iload_n 1, 1) := by decide +kernel
theorem dX5_placesFitting_24 : decode cX5_placesFitting 24 = .ok (.iaload, 1) := by decide +kernel
theorem dX5_placesFitting_25 : decode cX5_placesFitting 25 = .ok (.invokevirtual 293, 3) := by decide +kernel
theorem dX5_placesFitting_28 : decode cX5_placesFitting 28 = .ok (.aload_n 0, 1) := by decide +kernel
theorem dX5_placesFitting_29 : decode cX5_placesFitting 29 = .ok (.getfield 55, 3) := by decide +kernel
theorem dX5_placesFitting_32 : decode cX5_placesFitting 32 = .ok (.iload_n 1, 1) := by decide +kernel
theorem dX5_placesFitting_33 : decode cX5_placesFitting 33 = .ok (.iaload, 1) := by decide +kernel
theorem dX5_placesFitting_34 : decode cX5_placesFitting 34 = .ok (.iadd, 1) := by decide +kernel
theorem dX5_placesFitting_35 : decode cX5_placesFitting 35 = .ok (.istore 6, 2) := by decide +kernel
theorem dX5_placesFitting_37 : decode cX5_placesFitting 37 = .ok (.aload_n 0, 1) := by decide +kernel
theorem dX5_placesFitting_38 : decode cX5_placesFitting 38 = .ok (.getfield 45, 3) := by decide +kernel
theorem dX5_placesFitting_41 : decode cX5_placesFitting 41 = .ok (.iconst 0, 1) := by decide +kernel
theorem dX5_placesFitting_42 : decode cX5_placesFitting 42 = .ok (.aaload, 1) := by decide +kernel
theorem dX5_placesFitting_43 : decode cX5_placesFitting 43 = .ok (.astore 7, 2) := by decide +kernel
theorem dX5_placesFitting_45 : decode cX5_placesFitting 45 = .ok (.aload_n 0, 1) := by decide +kernel
theorem dX5_placesFitting_46 : decode cX5_placesFitting 46 = .ok (.getfield 45, 3) := by decide +kernel
theorem dX5_placesFitting_49 : decode cX5_placesFitting 49 = .ok (.iconst 1, 1) := by decide +kernel
theorem dX5_placesFitting_50 : decode cX5_placesFitting 50 = .ok (.aaload, 1) := by decide +kernel
theorem dX5_placesFitting_51 : decode cX5_placesFitting 51 = .ok (.astore 8, 2) := by decide +kernel
theorem dX5_placesFitting_53 : decode cX5_placesFitting 53 = .ok (.aload 7, 2) := by decide +kernel
theorem dX5_placesFitting_55 : decode cX5_placesFitting 55 = .ok (.aload_n 0, 1) := by decide +kernel
theorem dX5_placesFitting_56 : decode cX5_placesFitting 56 = .ok (.getfield 26, 3) := by decide +kernel
theorem dX5_placesFitting_59 : decode cX5_placesFitting 59 = .ok (.invokevirtual 266, 3) := by decide +kernel
theorem dX5_placesFitting_62 : decode cX5_placesFitting 62 = .ok (.lconst 0, 1) := by decide +kernel
theorem dX5_placesFitting_63 : decode cX5_placesFitting 63 = .ok (.lstore 9, 2) := by decide +kernel
theorem dX5_placesFitting_65 : decode cX5_placesFitting 65 = .ok (.iconst 0, 1) := by decide +kernel
theorem dX5_placesFitting_66 : decode cX5_placesFitting 66 = .ok (.istore 11, 2) := by decide +kernel
theorem dX5_placesFitting_68 : decode cX5_placesFitting 68 = .ok (.iload 11, 2) := by decide +kernel
theorem dX5_placesFitting_70 : decode cX5_placesFitting 70 = .ok (.bipush 56, 2) := by decide +kernel
theorem dX5_placesFitting_72 : decode cX5_placesFitting 72 = .ok (.if_icmp .ge 94, 3) := by decide +kernel
theorem dX5_placesFitting_75 : decode cX5_placesFitting 75 = .ok (.bipush 55, 2) := by decide +kernel
theorem dX5_placesFitting_77 : decode cX5_placesFitting 77 = .ok (.iload 11, 2) := by decide +kernel
theorem dX5_placesFitting_79 : decode cX5_placesFitting 79 = .ok (.isub, 1) := by decide +kernel
theorem dX5_placesFitting_80 : decode cX5_placesFitting 80 = .ok (.istore 12, 2) := by decide +kernel
theorem dX5_placesFitting_82 : decode cX5_placesFitting 82 = .ok (.lload_n 2, 1) := by decide +kernel
theorem dX5_placesFitting_83 : decode cX5_placesFitting 83 = .ok (.iload 11, 2) := by decide +kernel
theorem dX5_placesFitting_85 : decode cX5_placesFitting 85 = .ok (.lshr, 1) := by decide +kernel
theorem dX5_placesFitting_86 : decode cX5_placesFitting 86 = .ok (.lconst 1, 1) := by decide +kernel
theorem dX5_placesFitting_87 : decode cX5_placesFitting 87 = .ok (.land, 1) := by decide +kernel
theorem dX5_placesFitting_88 : decode cX5_placesFitting 88 = .ok (.lconst 0, 1) := by decide +kernel
theorem dX5_placesFitting_89 : decode cX5_placesFitting 89 = .ok (.lcmp, 1) := by decide +kernel
theorem dX5_placesFitting_90 : decode cX5_placesFitting 90 = .ok (.ifCond .eq 55, 3) := by decide +kernel
theorem dX5_placesFitting_93 : decode cX5_placesFitting 93 = .ok (.aload 8, 2) := by decide +kernel
theorem dX5_placesFitting_95 : decode cX5_placesFitting 95 = .ok (.aload 7, 2) := by decide +kernel
theorem dX5_placesFitting_97 : decode cX5_placesFitting 97 = .ok (.invokevirtual 266, 3) := by decide +kernel
theorem dX5_placesFitting_100 : decode cX5_placesFitting 100 = .ok (.aload 8, 2) := by decide +kernel
theorem dX5_placesFitting_102 : decode cX5_placesFitting 102 = .ok (.aload_n 0, 1) := by decide +kernel
theorem dX5_placesFitting_103 : decode cX5_placesFitting 103 = .ok (.getfield 19, 3) := by decide +kernel
theorem dX5_placesFitting_106 : decode cX5_placesFitting 106 = .ok (.lload 4, 2) := by decide +kernel
theorem dX5_placesFitting_108 : decode cX5_placesFitting 108 = .ok (.lconst 1, 1) := by decide +kernel
theorem dX5_placesFitting_109 : decode cX5_placesFitting 109 = .ok (.iload 12, 2) := by decide +kernel
theorem dX5_placesFitting_111 : decode cX5_placesFitting 111 = .ok (.lshl, 1) := by decide +kernel
theorem dX5_placesFitting_112 : decode cX5_placesFitting 112 = .ok (.lxor, 1) := by decide +kernel
theorem dX5_placesFitting_113 : decode cX5_placesFitting 113 = .ok (.iload 12, 2) := by decide +kernel
theorem dX5_placesFitting_115 : decode cX5_placesFitting 115 = .ok (.iconst 1, 1) := by decide +kernel
theorem dX5_placesFitting_116 : decode cX5_placesFitting 116 = .ok (.iadd, 1) := by decide +kernel
theorem dX5_placesFitting_117 : decode cX5_placesFitting 117 = .ok (.invokevirtual 204, 3) := by decide +kernel
theorem dX5_placesFitting_120 : decode cX5_placesFitting 120 = .ok (.aload 8, 2) := by decide +kernel
theorem dX5_placesFitting_122 : decode cX5_placesFitting 122 = .ok (.aload_n 0, 1) := by decide +kernel
theorem dX5_placesFitting_123 : decode cX5_placesFitting 123 = .ok (.getfield 52, 3) := by decide +kernel
theorem dX5_placesFitting_126 : decode cX5_placesFitting 126 = .ok (.iload_n 1, 1) := by decide +kernel
theorem dX5_placesFitting_127 : decode cX5_placesFitting 127 = .ok (.iaload, 1) := by decide +kernel
theorem dX5_placesFitting_128 : decode cX5_placesFitting 128 = .ok (.invokevirtual 293, 3) := by decide +kernel
theorem dX5_placesFitting_131 : decode cX5_placesFitting 131 = .ok (.iload 6, 2) := by decide +kernel
theorem dX5_placesFitting_133 : decode cX5_placesFitting 133 = .ok (.if_icmp .ne 12, 3) := by decide +kernel
theorem dX5_placesFitting_136 : decode cX5_placesFitting 136 = .ok (.lload 9, 2) := by decide +kernel
theorem dX5_placesFitting_138 : decode cX5_placesFitting 138 = .ok (.lconst 1, 1) := by decide +kernel
theorem dX5_placesFitting_139 : decode cX5_placesFitting 139 = .ok (.iload 11, 2) := by decide +kernel
theorem dX5_placesFitting_141 : decode cX5_placesFitting 141 = .ok (.lshl, 1) := by decide +kernel
theorem dX5_placesFitting_142 : decode cX5_placesFitting 142 = .ok (.lor, 1) := by decide +kernel
theorem dX5_placesFitting_143 : decode cX5_placesFitting 143 = .ok (.lstore 9, 2) := by decide +kernel
theorem dX5_placesFitting_145 : decode cX5_placesFitting 145 = .ok (.aload 7, 2) := by decide +kernel
theorem dX5_placesFitting_147 : decode cX5_placesFitting 147 = .ok (.aload_n 0, 1) := by decide +kernel
theorem dX5_placesFitting_148 : decode cX5_placesFitting 148 = .ok (.getfield 19, 3) := by decide +kernel
theorem dX5_placesFitting_151 : decode cX5_placesFitting 151 = .ok (.lload 4, 2) := by decide +kernel
theorem dX5_placesFitting_153 : decode cX5_placesFitting 153 = .ok (.iload 12, 2) := by decide +kernel
theorem dX5_placesFitting_155 : decode cX5_placesFitting 155 = .ok (.lshr, 1) := by decide +kernel
theorem dX5_placesFitting_156 : decode cX5_placesFitting 156 = .ok (.iconst 1, 1) := by decide +kernel
theorem dX5_placesFitting_157 : decode cX5_placesFitting 157 = .ok (.invokevirtual 204, 3) := by decide +kernel
theorem dX5_placesFitting_160 : decode cX5_placesFitting 160 = .ok (.iinc 11 1, 3) := by decide +kernel
theorem dX5_placesFitting_163 : decode cX5_placesFitting 163 = .ok (.goto (-95), 3) := by decide +kernel
theorem dX5_placesFitting_166 : decode cX5_placesFitting 166 = .ok (.lload 9, 2) := by decide +kernel
theorem dX5_placesFitting_168 : decode cX5_placesFitting 168 = .ok (.lreturn, 1) := by decide +kernel
theorem dX5_goodBehind_0 : decode cX5_goodBehind 0 = .ok (.aload_n 0, 1) := by decide +kernel
theorem dX5_goodBehind_1 : decode cX5_goodBehind 1 = .ok (.getfield 19, 3) := by decide +kernel
theorem dX5_goodBehind_4 : decode cX5_goodBehind 4 = .ok (.iload_n 1, 1) := by decide +kernel
theorem dX5_goodBehind_5 : decode cX5_goodBehind 5 = .ok (.invokevirtual 232, 3) := by decide +kernel
theorem dX5_goodBehind_8 : decode cX5_goodBehind 8 = .ok (.lstore_n 3, 1) := by decide +kernel
theorem dX5_goodBehind_9 : decode cX5_goodBehind 9 = .ok (.iconst 0, 1) := by decide +kernel
theorem dX5_goodBehind_10 : decode cX5_goodBehind 10 = .ok (.istore 5, 2) := by decide +kernel
theorem dX5_goodBehind_12 : decode cX5_goodBehind 12 = .ok (.iload 5, 2) := by decide +kernel
theorem dX5_goodBehind_14 : decode cX5_goodBehind 14 = .ok (.iconst 4, 1) := by decide +kernel
theorem dX5_goodBehind_15 : decode cX5_goodBehind 15 = .ok (.if_icmp .ge 32, 3) := by decide +kernel
theorem dX5_goodBehind_18 : decode cX5_goodBehind 18 = .ok (.iload_n 2, 1) := by decide +kernel
theorem dX5_goodBehind_19 : decode cX5_goodBehind 19 = .ok (.iload 5, 2) := by decide +kernel
theorem dX5_goodBehind_21 : decode cX5_goodBehind 21 = .ok (.ishr, 1) := by decide +kernel
theorem dX5_goodBehind_22 : decode cX5_goodBehind 22 = .ok (.iconst 1, 1) := by decide +kernel
theorem dX5_goodBehind_23 : decode cX5_goodBehind 23 = .ok (.iand, 1) := by decide +kernel
theorem dX5_goodBehind_24 : decode cX5_goodBehind 24 = .ok (.ifCond .ne 17, 3) := by decide +kernel
theorem dX5_goodBehind_27 : decode cX5_goodBehind 27 = .ok (.lload_n 3, 1) := by decide +kernel
theorem dX5_goodBehind_28 : decode cX5_goodBehind 28 = .ok (.ldc2_w 296, 3) := by decide +kernel
theorem dX5_goodBehind_31 : decode cX5_goodBehind 31 = .ok (.bipush 14, 2) := by decide +kernel
theorem dX5_goodBehind_33 : decode cX5_goodBehind 33 = .ok (.iconst 3, 1) := by decide +kernel
theorem dX5_goodBehind_34 : decode cX5_goodBehind 34 = .ok (.iload 5, 2) := by decide +kernel
theorem dX5_goodBehind_36 : decode cX5_goodBehind 36 = .ok (.isub, 1) := by decide +kernel
theorem dX5_goodBehind_37 : decode cX5_goodBehind 37 = .ok (.imul, 1) := by decide +kernel
theorem dX5_goodBehind_38 : decode cX5_goodBehind 38 = .ok (.lshl, 1) := by decide +kernel
theorem dX5_goodBehind_39 : decode cX5_goodBehind 39 = .ok (.lxor, 1) := by decide +kernel
theorem dX5_goodBehind_40 : decode cX5_goodBehind 40 = .ok (.lstore_n 3, 1) := by decide +kernel
theorem dX5_goodBehind_41 : decode cX5_goodBehind 41 = .ok (.iinc 5 1, 3) := by decide +kernel
theorem dX5_goodBehind_44 : decode cX5_goodBehind 44 = .ok (.goto (-32), 3) := by decide +kernel
theorem dX5_goodBehind_47 : decode cX5_goodBehind 47 = .ok (.aload_n 0, 1) := by decide +kernel
theorem dX5_goodBehind_48 : decode cX5_goodBehind 48 = .ok (.invokevirtual 228, 3) := by decide +kernel
theorem dX5_goodBehind_51 : decode cX5_goodBehind 51 = .ok (.astore 5, 2) := by decide +kernel
theorem dX5_goodBehind_53 : decode cX5_goodBehind 53 = .ok (.iconst 0, 1) := by decide +kernel
theorem dX5_goodBehind_54 : decode cX5_goodBehind 54 = .ok (.istore 6, 2) := by decide +kernel
theorem dX5_goodBehind_56 : decode cX5_goodBehind 56 = .ok (.iload 6, 2) := by decide +kernel
theorem dX5_goodBehind_58 : decode cX5_goodBehind 58 = .ok (.iconst 3, 1) := by decide +kernel
theorem dX5_goodBehind_59 : decode cX5_goodBehind 59 = .ok (.if_icmp .ge 21, 3) := by decide +kernel
theorem dX5_goodBehind_62 : decode cX5_goodBehind 62 = .ok (.aload 5, 2) := by decide +kernel
theorem dX5_goodBehind_64 : decode cX5_goodBehind 64 = .ok (.aload_n 0, 1) := by decide +kernel
theorem dX5_goodBehind_65 : decode cX5_goodBehind 65 = .ok (.getfield 19, 3) := by decide +kernel
theorem dX5_goodBehind_68 : decode cX5_goodBehind 68 = .ok (.lload_n 3, 1) := by decide +kernel
theorem dX5_goodBehind_69 : decode cX5_goodBehind 69 = .ok (.bipush 56, 2) := by decide +kernel
theorem dX5_goodBehind_71 : decode cX5_goodBehind 71 = .ok (.invokevirtual 204, 3) := by decide +kernel
theorem dX5_goodBehind_74 : decode cX5_goodBehind 74 = .ok (.iinc 6 1, 3) := by decide +kernel
theorem dX5_goodBehind_77 : decode cX5_goodBehind 77 = .ok (.goto (-21), 3) := by decide +kernel
theorem dX5_goodBehind_80 : decode cX5_goodBehind 80 = .ok (.aload 5, 2) := by decide +kernel
theorem dX5_goodBehind_82 : decode cX5_goodBehind 82 = .ok (.getfield 211, 3) := by decide +kernel
theorem dX5_goodBehind_85 : decode cX5_goodBehind 85 = .ok (.ireturn, 1) := by decide +kernel
theorem dX5_setsWithFate_0 : decode cX5_setsWithFate 0 = .ok (.iload_n 2, 1) := by decide +kernel
theorem dX5_setsWithFate_1 : decode cX5_setsWithFate 1 = .ok (.ifCond .gt 19, 3) := by decide +kernel
theorem dX5_setsWithFate_4 : decode cX5_setsWithFate 4 = .ok (.aload_n 0, 1) := by decide +kernel
theorem dX5_setsWithFate_5 : decode cX5_setsWithFate 5 = .ok (.iload 4, 2) := by decide +kernel
theorem dX5_setsWithFate_7 : decode cX5_setsWithFate 7 = .ok (.invokevirtual 298, 3) := by decide +kernel
theorem dX5_setsWithFate_10 : decode cX5_setsWithFate 10 = .ok (.iload_n 1, 1) := by decide +kernel
theorem dX5_setsWithFate_11 : decode cX5_setsWithFate 11 = .ok (.if_icmp .ne 7, 3) := by decide +kernel
theorem dX5_setsWithFate_14 : decode cX5_setsWithFate 14 = .ok (.iconst 1, 1) := by decide +kernel
theorem dX5_setsWithFate_15 : decode cX5_setsWithFate 15 = .ok (.goto 4, 3) := by decide +kernel
theorem dX5_setsWithFate_18 : decode cX5_setsWithFate 18 = .ok (.iconst 0, 1) := by decide +kernel
theorem dX5_setsWithFate_19 : decode cX5_setsWithFate 19 = .ok (.ireturn, 1) := by decide +kernel
theorem dX5_setsWithFate_20 : decode cX5_setsWithFate 20 = .ok (.iconst 0, 1) := by decide +kernel
theorem dX5_setsWithFate_21 : decode cX5_setsWithFate 21 = .ok (.istore 5, 2) := by decide +kernel
theorem dX5_setsWithFate_23 : decode cX5_setsWithFate 23 = .ok (.iload_n 3, 1) := by decide +kernel
theorem dX5_setsWithFate_24 : decode cX5_setsWithFate 24 = .ok (.istore 6, 2) := by decide +kernel
theorem dX5_setsWithFate_26 : decode cX5_setsWithFate 26 = .ok (.iload 6, 2) := by decide +kernel
theorem dX5_setsWithFate_28 : decode cX5_setsWithFate 28 = .ok (.bipush 14, 2) := by decide +kernel
theorem dX5_setsWithFate_30 : decode cX5_setsWithFate 30 = .ok (.if_icmp .ge 33, 3) := by decide +kernel
theorem dX5_setsWithFate_33 : decode cX5_setsWithFate 33 = .ok (.iload 5, 2) := by decide +kernel
theorem dX5_setsWithFate_35 : decode cX5_setsWithFate 35 = .ok (.aload_n 0, 1) := by decide +kernel
theorem dX5_setsWithFate_36 : decode cX5_setsWithFate 36 = .ok (.iload_n 1, 1) := by decide +kernel
theorem dX5_setsWithFate_37 : decode cX5_setsWithFate 37 = .ok (.iload_n 2, 1) := by decide +kernel
theorem dX5_setsWithFate_38 : decode cX5_setsWithFate 38 = .ok (.iconst 1, 1) := by decide +kernel
theorem dX5_setsWithFate_39 : decode cX5_setsWithFate 39 = .ok (.isub, 1) := by decide +kernel
theorem dX5_setsWithFate_40 : decode cX5_setsWithFate 40 = .ok (.iload 6, 2) := by decide +kernel
theorem dX5_setsWithFate_42 : decode cX5_setsWithFate 42 = .ok (.iconst 1, 1) := by decide +kernel
theorem dX5_setsWithFate_43 : decode cX5_setsWithFate 43 = .ok (.iadd, 1) := by decide +kernel
theorem dX5_setsWithFate_44 : decode cX5_setsWithFate 44 = .ok (.iload 4, 2) := by decide +kernel
theorem dX5_setsWithFate_46 : decode cX5_setsWithFate 46 = .ok (.iconst 1, 1) := by decide +kernel
theorem dX5_setsWithFate_47 : decode cX5_setsWithFate 47 = .ok (.iload 6, 2) := by decide +kernel
theorem dX5_setsWithFate_49 : decode cX5_setsWithFate 49 = .ok (.ishl, 1) := by decide +kernel
theorem dX5_setsWithFate_50 : decode cX5_setsWithFate 50 = .ok (.ior, 1) := by decide +kernel
theorem dX5_setsWithFate_51 : decode cX5_setsWithFate 51 = .ok (.invokestatic 190, 3) := by decide +kernel
theorem dX5_setsWithFate_54 : decode cX5_setsWithFate 54 = .ok (.iadd, 1) := by decide +kernel
theorem dX5_setsWithFate_55 : decode cX5_setsWithFate 55 = .ok (.istore 5, 2) := by decide +kernel
theorem dX5_setsWithFate_57 : decode cX5_setsWithFate 57 = .ok (.iinc 6 1, 3) := by decide +kernel
theorem dX5_setsWithFate_60 : decode cX5_setsWithFate 60 = .ok (.goto (-34), 3) := by decide +kernel
theorem dX5_setsWithFate_63 : decode cX5_setsWithFate 63 = .ok (.iload 5, 2) := by decide +kernel
theorem dX5_setsWithFate_65 : decode cX5_setsWithFate 65 = .ok (.ireturn, 1) := by decide +kernel
theorem dX5_waysToSync_0 : decode cX5_waysToSync 0 = .ok (.iload 6, 2) := by decide +kernel
theorem dX5_waysToSync_2 : decode cX5_waysToSync 2 = .ok (.iload 5, 2) := by decide +kernel
theorem dX5_waysToSync_4 : decode cX5_waysToSync 4 = .ok (.if_icmp .ge 12, 3) := by decide +kernel
theorem dX5_waysToSync_7 : decode cX5_waysToSync 7 = .ok (.iload 6, 2) := by decide +kernel
theorem dX5_waysToSync_9 : decode cX5_waysToSync 9 = .ok (.iconst 1, 1) := by decide +kernel
theorem dX5_waysToSync_10 : decode cX5_waysToSync 10 = .ok (.iadd, 1) := by decide +kernel
theorem dX5_waysToSync_11 : decode cX5_waysToSync 11 = .ok (.aload_n 1, 1) := by decide +kernel
theorem dX5_waysToSync_12 : decode cX5_waysToSync 12 = .ok (.arraylength, 1) := by decide +kernel
theorem dX5_waysToSync_13 : decode cX5_waysToSync 13 = .ok (.if_icmp .lt 11, 3) := by decide +kernel
theorem dX5_waysToSync_16 : decode cX5_waysToSync 16 = .ok (.aload_n 1, 1) := by decide +kernel
theorem dX5_waysToSync_17 : decode cX5_waysToSync 17 = .ok (.iload 6, 2) := by decide +kernel
theorem dX5_waysToSync_19 : decode cX5_waysToSync 19 = .ok (.aaload, 1) := by decide +kernel
theorem dX5_waysToSync_20 : decode cX5_waysToSync 20 = .ok (.invokevirtual 208, 3) := by decide +kernel
theorem dX5_waysToSync_23 : decode cX5_waysToSync 23 = .ok (.ireturn, 1) := by decide +kernel
theorem dX5_waysToSync_24 : decode cX5_waysToSync 24 = .ok (.lload_n 2, 1) := by decide +kernel
theorem dX5_waysToSync_25 : decode cX5_waysToSync 25 = .ok (.bipush 14, 2) := by decide +kernel
theorem dX5_waysToSync_27 : decode cX5_waysToSync 27 = .ok (.iconst 3, 1) := by decide +kernel
theorem dX5_waysToSync_28 : decode cX5_waysToSync 28 = .ok (.iload 6, 2) := by decide +kernel
theorem dX5_waysToSync_30 : decode cX5_waysToSync 30 = .ok (.iconst 3, 1) := by decide +kernel
theorem dX5_waysToSync_31 : decode cX5_waysToSync 31 = .ok (.iand, 1) := by decide +kernel
theorem dX5_waysToSync_32 : decode cX5_waysToSync 32 = .ok (.isub, 1) := by decide +kernel
theorem dX5_waysToSync_33 : decode cX5_waysToSync 33 = .ok (.imul, 1) := by decide +kernel
theorem dX5_waysToSync_34 : decode cX5_waysToSync 34 = .ok (.lshr, 1) := by decide +kernel
theorem dX5_waysToSync_35 : decode cX5_waysToSync 35 = .ok (.lstore 7, 2) := by decide +kernel
theorem dX5_waysToSync_37 : decode cX5_waysToSync 37 = .ok (.aload_n 1, 1) := by decide +kernel
theorem dX5_waysToSync_38 : decode cX5_waysToSync 38 = .ok (.iload 6, 2) := by decide +kernel
theorem dX5_waysToSync_40 : decode cX5_waysToSync 40 = .ok (.iconst 1, 1) := by decide +kernel
theorem dX5_waysToSync_41 : decode cX5_waysToSync 41 = .ok (.iadd, 1) := by decide +kernel
theorem dX5_waysToSync_42 : decode cX5_waysToSync 42 = .ok (.aaload, 1) := by decide +kernel
theorem dX5_waysToSync_43 : decode cX5_waysToSync 43 = .ok (.astore 9, 2) := by decide +kernel
theorem dX5_waysToSync_45 : decode cX5_waysToSync 45 = .ok (.iconst 0, 1) := by decide +kernel
theorem dX5_waysToSync_46 : decode cX5_waysToSync 46 = .ok (.istore 10, 2) := by decide +kernel
theorem dX5_waysToSync_48 : decode cX5_waysToSync 48 = .ok (.iload 4, 2) := by decide +kernel
theorem dX5_waysToSync_50 : decode cX5_waysToSync 50 = .ok (.bipush 10, 2) := by decide +kernel
theorem dX5_waysToSync_52 : decode cX5_waysToSync 52 = .ok (.if_icmp .ge 47, 3) := by decide +kernel
theorem dX5_waysToSync_55 : decode cX5_waysToSync 55 = .ok (.aload 9, 2) := by decide +kernel
theorem dX5_waysToSync_57 : decode cX5_waysToSync 57 = .ok (.aload_n 1, 1) := by decide +kernel
theorem dX5_waysToSync_58 : decode cX5_waysToSync 58 = .ok (.iload 6, 2) := by decide +kernel
theorem dX5_waysToSync_60 : decode cX5_waysToSync 60 = .ok (.aaload, 1) := by decide +kernel
theorem dX5_waysToSync_61 : decode cX5_waysToSync 61 = .ok (.invokevirtual 266, 3) := by decide +kernel
theorem dX5_waysToSync_64 : decode cX5_waysToSync 64 = .ok (.aload 9, 2) := by decide +kernel
theorem dX5_waysToSync_66 : decode cX5_waysToSync 66 = .ok (.aload_n 0, 1) := by decide +kernel
theorem dX5_waysToSync_67 : decode cX5_waysToSync 67 = .ok (.lload 7, 2) := by decide +kernel
theorem dX5_waysToSync_69 : decode cX5_waysToSync 69 = .ok (.bipush 14, 2) := by decide +kernel
theorem dX5_waysToSync_71 : decode cX5_waysToSync 71 = .ok (.invokevirtual 204, 3) := by decide +kernel
theorem dX5_waysToSync_74 : decode cX5_waysToSync 74 = .ok (.iload 10, 2) := by decide +kernel
theorem dX5_waysToSync_76 : decode cX5_waysToSync 76 = .ok (.bipush 10, 2) := by decide +kernel
theorem dX5_waysToSync_78 : decode cX5_waysToSync 78 = .ok (.iload 4, 2) := by decide +kernel
theorem dX5_waysToSync_80 : decode cX5_waysToSync 80 = .ok (.isub, 1) := by decide +kernel
theorem dX5_waysToSync_81 : decode cX5_waysToSync 81 = .ok (.aload_n 0, 1) := by decide +kernel
theorem dX5_waysToSync_82 : decode cX5_waysToSync 82 = .ok (.aload_n 1, 1) := by decide +kernel
theorem dX5_waysToSync_83 : decode cX5_waysToSync 83 = .ok (.lload_n 2, 1) := by decide +kernel
theorem dX5_waysToSync_84 : decode cX5_waysToSync 84 = .ok (.iload 4, 2) := by decide +kernel
theorem dX5_waysToSync_86 : decode cX5_waysToSync 86 = .ok (.iload 5, 2) := by decide +kernel
theorem dX5_waysToSync_88 : decode cX5_waysToSync 88 = .ok (.iload 6, 2) := by decide +kernel
theorem dX5_waysToSync_90 : decode cX5_waysToSync 90 = .ok (.iconst 1, 1) := by decide +kernel
theorem dX5_waysToSync_91 : decode cX5_waysToSync 91 = .ok (.iadd, 1) := by decide +kernel
theorem dX5_waysToSync_92 : decode cX5_waysToSync 92 = .ok (.invokestatic 269, 3) := by decide +kernel
theorem dX5_waysToSync_95 : decode cX5_waysToSync 95 = .ok (.imul, 1) := by decide +kernel
theorem dX5_waysToSync_96 : decode cX5_waysToSync 96 = .ok (.iadd, 1) := by decide +kernel
theorem dX5_waysToSync_97 : decode cX5_waysToSync 97 = .ok (.istore 10, 2) := by decide +kernel
theorem dX5_waysToSync_99 : decode cX5_waysToSync 99 = .ok (.iload 4, 2) := by decide +kernel
theorem dX5_waysToSync_101 : decode cX5_waysToSync 101 = .ok (.ifCond .le 48, 3) := by decide +kernel
theorem dX5_waysToSync_104 : decode cX5_waysToSync 104 = .ok (.aload 9, 2) := by decide +kernel
theorem dX5_waysToSync_106 : decode cX5_waysToSync 106 = .ok (.aload_n 1, 1) := by decide +kernel
theorem dX5_waysToSync_107 : decode cX5_waysToSync 107 = .ok (.iload 6, 2) := by decide +kernel
theorem dX5_waysToSync_109 : decode cX5_waysToSync 109 = .ok (.aaload, 1) := by decide +kernel
theorem dX5_waysToSync_110 : decode cX5_waysToSync 110 = .ok (.invokevirtual 266, 3) := by decide +kernel
theorem dX5_waysToSync_113 : decode cX5_waysToSync 113 = .ok (.aload 9, 2) := by decide +kernel
theorem dX5_waysToSync_115 : decode cX5_waysToSync 115 = .ok (.aload_n 0, 1) := by decide +kernel
theorem dX5_waysToSync_116 : decode cX5_waysToSync 116 = .ok (.lload 7, 2) := by decide +kernel
theorem dX5_waysToSync_118 : decode cX5_waysToSync 118 = .ok (.ldc2_w 296, 3) := by decide +kernel
theorem dX5_waysToSync_121 : decode cX5_waysToSync 121 = .ok (.lxor, 1) := by decide +kernel
theorem dX5_waysToSync_122 : decode cX5_waysToSync 122 = .ok (.bipush 14, 2) := by decide +kernel
theorem dX5_waysToSync_124 : decode cX5_waysToSync 124 = .ok (.invokevirtual 204, 3) := by decide +kernel
theorem dX5_waysToSync_127 : decode cX5_waysToSync 127 = .ok (.iload 10, 2) := by decide +kernel
theorem dX5_waysToSync_129 : decode cX5_waysToSync 129 = .ok (.iload 4, 2) := by decide +kernel
theorem dX5_waysToSync_131 : decode cX5_waysToSync 131 = .ok (.aload_n 0, 1) := by decide +kernel
theorem dX5_waysToSync_132 : decode cX5_waysToSync 132 = .ok (.aload_n 1, 1) := by decide +kernel
theorem dX5_waysToSync_133 : decode cX5_waysToSync 133 = .ok (.lload_n 2, 1) := by decide +kernel
theorem dX5_waysToSync_134 : decode cX5_waysToSync 134 = .ok (.iload 4, 2) := by decide +kernel
theorem dX5_waysToSync_136 : decode cX5_waysToSync 136 = .ok (.iload 5, 2) := by decide +kernel
theorem dX5_waysToSync_138 : decode cX5_waysToSync 138 = .ok (.iload 6, 2) := by decide +kernel
theorem dX5_waysToSync_140 : decode cX5_waysToSync 140 = .ok (.iconst 1, 1) := by decide +kernel
theorem dX5_waysToSync_141 : decode cX5_waysToSync 141 = .ok (.iadd, 1) := by decide +kernel
theorem dX5_waysToSync_142 : decode cX5_waysToSync 142 = .ok (.invokestatic 269, 3) := by decide +kernel
theorem dX5_waysToSync_145 : decode cX5_waysToSync 145 = .ok (.imul, 1) := by decide +kernel
theorem dX5_waysToSync_146 : decode cX5_waysToSync 146 = .ok (.iadd, 1) := by decide +kernel
theorem dX5_waysToSync_147 : decode cX5_waysToSync 147 = .ok (.istore 10, 2) := by decide +kernel
theorem dX5_waysToSync_149 : decode cX5_waysToSync 149 = .ok (.iload 10, 2) := by decide +kernel
theorem dX5_waysToSync_151 : decode cX5_waysToSync 151 = .ok (.ireturn, 1) := by decide +kernel
theorem dX5_drawnWord_0 : decode cX5_drawnWord 0 = .ok (.aload_n 0, 1) := by decide +kernel
theorem dX5_drawnWord_1 : decode cX5_drawnWord 1 = .ok (.getfield 19, 3) := by decide +kernel
theorem dX5_drawnWord_4 : decode cX5_drawnWord 4 = .ok (.iload_n 2, 1) := by decide +kernel
theorem dX5_drawnWord_5 : decode cX5_drawnWord 5 = .ok (.iload_n 1, 1) := by decide +kernel
theorem dX5_drawnWord_6 : decode cX5_drawnWord 6 = .ok (.sipush 255, 3) := by decide +kernel
theorem dX5_drawnWord_9 : decode cX5_drawnWord 9 = .ok (.iand, 1) := by decide +kernel
theorem dX5_drawnWord_10 : decode cX5_drawnWord 10 = .ok (.invokevirtual 164, 3) := by decide +kernel
theorem dX5_drawnWord_13 : decode cX5_drawnWord 13 = .ok (.istore_n 3, 1) := by decide +kernel
theorem dX5_drawnWord_14 : decode cX5_drawnWord 14 = .ok (.iload_n 1, 1) := by decide +kernel
theorem dX5_drawnWord_15 : decode cX5_drawnWord 15 = .ok (.bipush 8, 2) := by decide +kernel
theorem dX5_drawnWord_17 : decode cX5_drawnWord 17 = .ok (.ishr, 1) := by decide +kernel
theorem dX5_drawnWord_18 : decode cX5_drawnWord 18 = .ok (.iconst 4, 1) := by decide +kernel
theorem dX5_drawnWord_19 : decode cX5_drawnWord 19 = .ok (.irem, 1) := by decide +kernel
theorem dX5_drawnWord_20 : decode cX5_drawnWord 20 = .ok (.ifCond .ne 17, 3) := by decide +kernel
theorem dX5_drawnWord_23 : decode cX5_drawnWord 23 = .ok (.iload_n 3, 1) := by decide +kernel
theorem dX5_drawnWord_24 : decode cX5_drawnWord 24 = .ok (.iconst 1, 1) := by decide +kernel
theorem dX5_drawnWord_25 : decode cX5_drawnWord 25 = .ok (.iload_n 1, 1) := by decide +kernel
theorem dX5_drawnWord_26 : decode cX5_drawnWord 26 = .ok (.bipush 12, 2) := by decide +kernel
theorem dX5_drawnWord_28 : decode cX5_drawnWord 28 = .ok (.ishr, 1) := by decide +kernel
theorem dX5_drawnWord_29 : decode cX5_drawnWord 29 = .ok (.bipush 14, 2) := by decide +kernel
theorem dX5_drawnWord_31 : decode cX5_drawnWord 31 = .ok (.irem, 1) := by decide +kernel
theorem dX5_drawnWord_32 : decode cX5_drawnWord 32 = .ok (.ishl, 1) := by decide +kernel
theorem dX5_drawnWord_33 : decode cX5_drawnWord 33 = .ok (.ixor, 1) := by decide +kernel
theorem dX5_drawnWord_34 : decode cX5_drawnWord 34 = .ok (.goto 4, 3) := by decide +kernel
theorem dX5_drawnWord_37 : decode cX5_drawnWord 37 = .ok (.iload_n 3, 1) := by decide +kernel
theorem dX5_drawnWord_38 : decode cX5_drawnWord 38 = .ok (.ireturn, 1) := by decide +kernel
theorem dX5_fraction_0 : decode cX5_fraction 0 = .ok (.iload_n 0, 1) := by decide +kernel
theorem dX5_fraction_1 : decode cX5_fraction 1 = .ok (.invokestatic 301, 3) := by decide +kernel
theorem dX5_fraction_4 : decode cX5_fraction 4 = .ok (.iload_n 1, 1) := by decide +kernel
theorem dX5_fraction_5 : decode cX5_fraction 5 = .ok (.invokestatic 304, 3) := by decide +kernel
theorem dX5_fraction_8 : decode cX5_fraction 8 = .ok (.istore_n 3, 1) := by decide +kernel
theorem dX5_fraction_9 : decode cX5_fraction 9 = .ok (.iload_n 3, 1) := by decide +kernel
theorem dX5_fraction_10 : decode cX5_fraction 10 = .ok (.iconst 1, 1) := by decide +kernel
theorem dX5_fraction_11 : decode cX5_fraction 11 = .ok (.if_icmp .ge 6, 3) := by decide +kernel
theorem dX5_fraction_14 : decode cX5_fraction 14 = .ok (.bipush (-9), 2) := by decide +kernel
theorem dX5_fraction_16 : decode cX5_fraction 16 = .ok (.ireturn, 1) := by decide +kernel
theorem dX5_fraction_17 : decode cX5_fraction 17 = .ok (.iload_n 2, 1) := by decide +kernel
theorem dX5_fraction_18 : decode cX5_fraction 18 = .ok (.ifCond .eq 9, 3) := by decide +kernel
theorem dX5_fraction_21 : decode cX5_fraction 21 = .ok (.iload_n 0, 1) := by decide +kernel
theorem dX5_fraction_22 : decode cX5_fraction 22 = .ok (.iload_n 3, 1) := by decide +kernel
theorem dX5_fraction_23 : decode cX5_fraction 23 = .ok (.idiv, 1) := by decide +kernel
theorem dX5_fraction_24 : decode cX5_fraction 24 = .ok (.goto 6, 3) := by decide +kernel
theorem dX5_fraction_27 : decode cX5_fraction 27 = .ok (.iload_n 1, 1) := by decide +kernel
theorem dX5_fraction_28 : decode cX5_fraction 28 = .ok (.iload_n 3, 1) := by decide +kernel
theorem dX5_fraction_29 : decode cX5_fraction 29 = .ok (.idiv, 1) := by decide +kernel
theorem dX5_fraction_30 : decode cX5_fraction 30 = .ok (.ireturn, 1) := by decide +kernel
theorem dX5_greatestDivisor_0 : decode cX5_greatestDivisor 0 = .ok (.iload_n 0, 1) := by decide +kernel
theorem dX5_greatestDivisor_1 : decode cX5_greatestDivisor 1 = .ok (.istore_n 2, 1) := by decide +kernel
theorem dX5_greatestDivisor_2 : decode cX5_greatestDivisor 2 = .ok (.iload_n 1, 1) := by decide +kernel
theorem dX5_greatestDivisor_3 : decode cX5_greatestDivisor 3 = .ok (.istore_n 3, 1) := by decide +kernel
theorem dX5_greatestDivisor_4 : decode cX5_greatestDivisor 4 = .ok (.iconst 0, 1) := by decide +kernel
theorem dX5_greatestDivisor_5 : decode cX5_greatestDivisor 5 = .ok (.istore 4, 2) := by decide +kernel
theorem dX5_greatestDivisor_7 : decode cX5_greatestDivisor 7 = .ok (.iload 4, 2) := by decide +kernel
theorem dX5_greatestDivisor_9 : decode cX5_greatestDivisor 9 = .ok (.bipush 64, 2) := by decide +kernel
theorem dX5_greatestDivisor_11 : decode cX5_greatestDivisor 11 = .ok (.if_icmp .ge 23, 3) := by decide +kernel
theorem dX5_greatestDivisor_14 : decode cX5_greatestDivisor 14 = .ok (.iload_n 3, 1) := by decide +kernel
theorem dX5_greatestDivisor_15 : decode cX5_greatestDivisor 15 = .ok (.ifCond .eq 19, 3) := by decide +kernel
theorem dX5_greatestDivisor_18 : decode cX5_greatestDivisor 18 = .ok (.iload_n 2, 1) := by decide +kernel
theorem dX5_greatestDivisor_19 : decode cX5_greatestDivisor 19 = .ok (.iload_n 3, 1) := by decide +kernel
theorem dX5_greatestDivisor_20 : decode cX5_greatestDivisor 20 = .ok (.irem, 1) := by decide +kernel
theorem dX5_greatestDivisor_21 : decode cX5_greatestDivisor 21 = .ok (.istore 5, 2) := by decide +kernel
theorem dX5_greatestDivisor_23 : decode cX5_greatestDivisor 23 = .ok (.iload_n 3, 1) := by decide +kernel
theorem dX5_greatestDivisor_24 : decode cX5_greatestDivisor 24 = .ok (.istore_n 2, 1) := by decide +kernel
theorem dX5_greatestDivisor_25 : decode cX5_greatestDivisor 25 = .ok (.iload 5, 2) := by decide +kernel
theorem dX5_greatestDivisor_27 : decode cX5_greatestDivisor 27 = .ok (.istore_n 3, 1) := by decide +kernel
theorem dX5_greatestDivisor_28 : decode cX5_greatestDivisor 28 = .ok (.iinc 4 1, 3) := by decide +kernel
theorem dX5_greatestDivisor_31 : decode cX5_greatestDivisor 31 = .ok (.goto (-24), 3) := by decide +kernel
theorem dX5_greatestDivisor_34 : decode cX5_greatestDivisor 34 = .ok (.iload_n 2, 1) := by decide +kernel
theorem dX5_greatestDivisor_35 : decode cX5_greatestDivisor 35 = .ok (.ireturn, 1) := by decide +kernel
end
section
theorem dX6_init_0 : decode cX6_init 0 = .ok (.aload_n 0, 1) := by decide +kernel
theorem dX6_init_1 : decode cX6_init 1 = .ok (.invokespecial 1, 3) := by decide +kernel
theorem dX6_init_4 : decode cX6_init 4 = .ok (.aload_n 0, 1) := by decide +kernel
theorem dX6_init_5 : decode cX6_init 5 = .ok (.bipush 40, 2) := by decide +kernel
theorem dX6_init_7 : decode cX6_init 7 = .ok (.newarray .int, 2) := by decide +kernel
theorem dX6_init_9 : decode cX6_init 9 = .ok (.putfield 7, 3) := by decide +kernel
theorem dX6_init_12 : decode cX6_init 12 = .ok (.aload_n 0, 1) := by decide +kernel
theorem dX6_init_13 : decode cX6_init 13 = .ok (.iconst 4, 1) := by decide +kernel
theorem dX6_init_14 : decode cX6_init 14 = .ok (.newarray .int, 2) := by decide +kernel
theorem dX6_init_16 : decode cX6_init 16 = .ok (.putfield 13, 3) := by decide +kernel
theorem dX6_init_19 : decode cX6_init 19 = .ok (.aload_n 0, 1) := by decide +kernel
theorem dX6_init_20 : decode cX6_init 20 = .ok (.bipush 64, 2) := by decide +kernel
theorem dX6_init_22 : decode cX6_init 22 = .ok (.newarray .int, 2) := by decide +kernel
theorem dX6_init_24 : decode cX6_init 24 = .ok (.putfield 16, 3) := by decide +kernel
theorem dX6_init_27 : decode cX6_init 27 = .ok (.aload_n 0, 1) := by decide +kernel
theorem dX6_init_28 : decode cX6_init 28 = .ok (.bipush 64, 2) := by decide +kernel
theorem dX6_init_30 : decode cX6_init 30 = .ok (.newarray .int, 2) := by decide +kernel
theorem dX6_init_32 : decode cX6_init 32 = .ok (.putfield 19, 3) := by decide +kernel
theorem dX6_init_35 : decode cX6_init 35 = .ok (.aload_n 0, 1) := by decide +kernel
theorem dX6_init_36 : decode cX6_init 36 = .ok (.bipush 47, 2) := by decide +kernel
theorem dX6_init_38 : decode cX6_init 38 = .ok (.newarray .int, 2) := by decide +kernel
theorem dX6_init_40 : decode cX6_init 40 = .ok (.putfield 22, 3) := by decide +kernel
theorem dX6_init_43 : decode cX6_init 43 = .ok (.aload_n 0, 1) := by decide +kernel
theorem dX6_init_44 : decode cX6_init 44 = .ok (.bipush 47, 2) := by decide +kernel
theorem dX6_init_46 : decode cX6_init 46 = .ok (.newarray .int, 2) := by decide +kernel
theorem dX6_init_48 : decode cX6_init 48 = .ok (.putfield 25, 3) := by decide +kernel
theorem dX6_init_51 : decode cX6_init 51 = .ok (.aload_n 0, 1) := by decide +kernel
theorem dX6_init_52 : decode cX6_init 52 = .ok (.sipush 658, 3) := by decide +kernel
theorem dX6_init_55 : decode cX6_init 55 = .ok (.newarray .int, 2) := by decide +kernel
theorem dX6_init_57 : decode cX6_init 57 = .ok (.putfield 28, 3) := by decide +kernel
theorem dX6_init_60 : decode cX6_init 60 = .ok (.aload_n 0, 1) := by decide +kernel
theorem dX6_init_61 : decode cX6_init 61 = .ok (.bipush 94, 2) := by decide +kernel
theorem dX6_init_63 : decode cX6_init 63 = .ok (.newarray .int, 2) := by decide +kernel
theorem dX6_init_65 : decode cX6_init 65 = .ok (.putfield 31, 3) := by decide +kernel
theorem dX6_init_68 : decode cX6_init 68 = .ok (.aload_n 0, 1) := by decide +kernel
theorem dX6_init_69 : decode cX6_init 69 = .ok (.iconst 2, 1) := by decide +kernel
theorem dX6_init_70 : decode cX6_init 70 = .ok (.newarray .boolean, 2) := by decide +kernel
theorem dX6_init_72 : decode cX6_init 72 = .ok (.putfield 34, 3) := by decide +kernel
theorem dX6_init_75 : decode cX6_init 75 = .ok (.aload_n 0, 1) := by decide +kernel
theorem dX6_init_76 : decode cX6_init 76 = .ok (.iconst 4, 1) := by decide +kernel
theorem dX6_init_77 : decode cX6_init 77 = .ok (.newarray .int, 2) := by decide +kernel
theorem dX6_init_79 : decode cX6_init 79 = .ok (.putfield 38, 3) := by decide +kernel
theorem dX6_init_82 : decode cX6_init 82 = .ok (.aload_n 0, 1) := by decide +kernel
theorem dX6_init_83 : decode cX6_init 83 = .ok (.iconst 4, 1) := by decide +kernel
theorem dX6_init_84 : decode cX6_init 84 = .ok (.newarray .int, 2) := by decide +kernel
theorem dX6_init_86 : decode cX6_init 86 = .ok (.putfield 41, 3) := by decide +kernel
theorem dX6_init_89 : decode cX6_init 89 = .ok (.aload_n 0, 1) := by decide +kernel
theorem dX6_init_90 : decode cX6_init 90 = .ok (.iconst 4, 1) := by decide +kernel
theorem dX6_init_91 : decode cX6_init 91 = .ok (.newarray .int, 2) := by decide +kernel
theorem dX6_init_93 : decode cX6_init 93 = .ok (.putfield 44, 3) := by decide +kernel
theorem dX6_init_96 : decode cX6_init 96 = .ok (.aload_n 0, 1) := by decide +kernel
theorem dX6_init_97 : decode cX6_init 97 = .ok (.bipush 16, 2) := by decide +kernel
theorem dX6_init_99 : decode cX6_init 99 = .ok (.newarray .int, 2) := by decide +kernel
theorem dX6_init_101 : decode cX6_init 101 = .ok (.putfield 47, 3) := by decide +kernel
theorem dX6_init_104 : decode cX6_init 104 = .ok (.aload_n 0, 1) := by decide +kernel
theorem dX6_init_105 : decode cX6_init 105 = .ok (.iconst 4, 1) := by decide +kernel
theorem dX6_init_106 : decode cX6_init 106 = .ok (.newarray .int, 2) := by decide +kernel
theorem dX6_init_108 : decode cX6_init 108 = .ok (.putfield 50, 3) := by decide +kernel
theorem dX6_init_111 : decode cX6_init 111 = .ok (.aload_n 0, 1) := by decide +kernel
theorem dX6_init_112 : decode cX6_init 112 = .ok (.iconst 1, 1) := by decide +kernel
theorem dX6_init_113 : decode cX6_init 113 = .ok (.putfield 53, 3) := by decide +kernel
theorem dX6_init_116 : decode cX6_init 116 = .ok (.aload_n 0, 1) := by decide +kernel
theorem dX6_init_117 : decode cX6_init 117 = .ok (.iconst 1, 1) := by decide +kernel
theorem dX6_init_118 : decode cX6_init 118 = .ok (.putfield 57, 3) := by decide +kernel
theorem dX6_init_121 : decode cX6_init 121 = .ok (.iconst 0, 1) := by decide +kernel
theorem dX6_init_122 : decode cX6_init 122 = .ok (.istore_n 1, 1) := by decide +kernel
theorem dX6_init_123 : decode cX6_init 123 = .ok (.iload_n 1, 1) := by decide +kernel
theorem dX6_init_124 : decode cX6_init 124 = .ok (.iconst 4, 1) := by decide +kernel
theorem dX6_init_125 : decode cX6_init 125 = .ok (.if_icmp .ge 16, 3) := by decide +kernel
theorem dX6_init_128 : decode cX6_init 128 = .ok (.aload_n 0, 1) := by decide +kernel
theorem dX6_init_129 : decode cX6_init 129 = .ok (.getfield 13, 3) := by decide +kernel
theorem dX6_init_132 : decode cX6_init 132 = .ok (.iload_n 1, 1) := by decide +kernel
theorem dX6_init_133 : decode cX6_init 133 = .ok (.iload_n 1, 1) := by decide +kernel
theorem dX6_init_134 : decode cX6_init 134 = .ok (.iastore, 1) := by decide +kernel
theorem dX6_init_135 : decode cX6_init 135 = .ok (.iinc 1 1, 3) := by decide +kernel
theorem dX6_init_138 : decode cX6_init 138 = .ok (.goto (-15), 3) := by decide +kernel
theorem dX6_init_141 : decode cX6_init 141 = .ok (.aload_n 0, 1) := by decide +kernel
theorem dX6_init_142 : decode cX6_init 142 = .ok (.invokevirtual 60, 3) := by decide +kernel
theorem dX6_init_145 : decode cX6_init 145 = .ok (.aload_n 0, 1) := by decide +kernel
theorem dX6_init_146 : decode cX6_init 146 = .ok (.invokevirtual 63, 3) := by decide +kernel
theorem dX6_init_149 : decode cX6_init 149 = .ok (.return_, 1) := by decide +kernel
theorem dX6_fresh_0 : decode cX6_fresh 0 = .ok (.iconst 0, 1) := by decide +kernel
theorem dX6_fresh_1 : decode cX6_fresh 1 = .ok (.istore_n 1, 1) := by decide +kernel
theorem dX6_fresh_2 : decode cX6_fresh 2 = .ok (.iload_n 1, 1) := by decide +kernel
theorem dX6_fresh_3 : decode cX6_fresh 3 = .ok (.bipush 47, 2) := by decide +kernel
theorem dX6_fresh_5 : decode cX6_fresh 5 = .ok (.if_icmp .ge 45, 3) := by decide +kernel
theorem dX6_fresh_8 : decode cX6_fresh 8 = .ok (.aload_n 0, 1) := by decide +kernel
theorem dX6_fresh_9 : decode cX6_fresh 9 = .ok (.getfield 22, 3) := by decide +kernel
theorem dX6_fresh_12 : decode cX6_fresh 12 = .ok (.iload_n 1, 1) := by decide +kernel
theorem dX6_fresh_13 : decode cX6_fresh 13 = .ok (.iload_n 1, 1) := by decide +kernel
theorem dX6_fresh_14 : decode cX6_fresh 14 = .ok (.bipush 14, 2) := by decide +kernel
theorem dX6_fresh_16 : decode cX6_fresh 16 = .ok (.if_icmp .lt 9, 3) := by decide +kernel
theorem dX6_fresh_19 : decode cX6_fresh 19 = .ok (.iload_n 1, 1) := by decide +kernel
theorem dX6_fresh_20 : decode cX6_fresh 20 = .ok (.bipush 16, 2) := by decide +kernel
theorem dX6_fresh_22 : decode cX6_fresh 22 = .ok (.if_icmp .le 15, 3) := by decide +kernel
theorem dX6_fresh_25 : decode cX6_fresh 25 = .ok (.iload_n 1, 1) := by decide +kernel
theorem dX6_fresh_26 : decode cX6_fresh 26 = .ok (.bipush 18, 2) := by decide +kernel
theorem dX6_fresh_28 : decode cX6_fresh 28 = .ok (.if_icmp .lt 14, 3) := by decide +kernel
theorem dX6_fresh_31 : decode cX6_fresh 31 = .ok (.iload_n 1, 1) := by decide +kernel
theorem dX6_fresh_32 : decode cX6_fresh 32 = .ok (.bipush 30, 2) := by decide +kernel
theorem dX6_fresh_34 : decode cX6_fresh 34 = .ok (.if_icmp .ge 8, 3) := by decide +kernel
theorem dX6_fresh_37 : decode cX6_fresh 37 = .ok (.bipush (-9), 2) := by decide +kernel
theorem dX6_fresh_39 : decode cX6_fresh 39 = .ok (.goto 4, 3) := by decide +kernel
theorem dX6_fresh_42 : decode cX6_fresh 42 = .ok (.iconst 0, 1) := by decide +kernel
theorem dX6_fresh_43 : decode cX6_fresh 43 = .ok (.iastore, 1) := by decide +kernel
theorem dX6_fresh_44 : decode cX6_fresh 44 = .ok (.iinc 1 1, 3) := by decide +kernel
theorem dX6_fresh_47 : decode cX6_fresh 47 = .ok (.goto (-45), 3) := by decide +kernel
theorem dX6_fresh_50 : decode cX6_fresh 50 = .ok (.return_, 1) := by decide +kernel
theorem dX6_copy_0 : decode cX6_copy 0 = .ok (.iconst 0, 1) := by decide +kernel
theorem dX6_copy_1 : decode cX6_copy 1 = .ok (.istore_n 2, 1) := by decide +kernel
theorem dX6_copy_2 : decode cX6_copy 2 = .ok (.iload_n 2, 1) := by decide +kernel
theorem dX6_copy_3 : decode cX6_copy 3 = .ok (.bipush 47, 2) := by decide +kernel
theorem dX6_copy_5 : decode cX6_copy 5 = .ok (.if_icmp .ge 15, 3) := by decide +kernel
theorem dX6_copy_8 : decode cX6_copy 8 = .ok (.aload_n 1, 1) := by decide +kernel
theorem dX6_copy_9 : decode cX6_copy 9 = .ok (.iload_n 2, 1) := by decide +kernel
theorem dX6_copy_10 : decode cX6_copy 10 = .ok (.aload_n 0, 1) := by decide +kernel
theorem dX6_copy_11 : decode cX6_copy 11 = .ok (.iload_n 2, 1) := by decide +kernel
theorem dX6_copy_12 : decode cX6_copy 12 = .ok (.iaload, 1) := by decide +kernel
theorem dX6_copy_13 : decode cX6_copy 13 = .ok (.iastore, 1) := by decide +kernel
theorem dX6_copy_14 : decode cX6_copy 14 = .ok (.iinc 2 1, 3) := by decide +kernel
theorem dX6_copy_17 : decode cX6_copy 17 = .ok (.goto (-15), 3) := by decide +kernel
theorem dX6_copy_20 : decode cX6_copy 20 = .ok (.return_, 1) := by decide +kernel
theorem dX6_in_0 : decode cX6_in 0 = .ok (.lload_n 0, 1) := by decide +kernel
theorem dX6_in_1 : decode cX6_in 1 = .ok (.lload_n 2, 1) := by decide +kernel
theorem dX6_in_2 : decode cX6_in 2 = .ok (.lcmp, 1) := by decide +kernel
theorem dX6_in_3 : decode cX6_in 3 = .ok (.ifCond .lt 14, 3) := by decide +kernel
theorem dX6_in_6 : decode cX6_in 6 = .ok (.lload_n 0, 1) := by decide +kernel
theorem dX6_in_7 : decode cX6_in 7 = .ok (.lload 4, 2) := by decide +kernel
theorem dX6_in_9 : decode cX6_in 9 = .ok (.lcmp, 1) := by decide +kernel
theorem dX6_in_10 : decode cX6_in 10 = .ok (.ifCond .gt 7, 3) := by decide +kernel
theorem dX6_in_13 : decode cX6_in 13 = .ok (.iconst 1, 1) := by decide +kernel
theorem dX6_in_14 : decode cX6_in 14 = .ok (.goto 4, 3) := by decide +kernel
theorem dX6_in_17 : decode cX6_in 17 = .ok (.iconst 0, 1) := by decide +kernel
theorem dX6_in_18 : decode cX6_in 18 = .ok (.ireturn, 1) := by decide +kernel
theorem dX6_has_0 : decode cX6_has 0 = .ok (.iload_n 0, 1) := by decide +kernel
theorem dX6_has_1 : decode cX6_has 1 = .ok (.iload_n 1, 1) := by decide +kernel
theorem dX6_has_2 : decode cX6_has 2 = .ok (.ishr, 1) := by decide +kernel
theorem dX6_has_3 : decode cX6_has 3 = .ok (.iconst 1, 1) := by decide +kernel
theorem dX6_has_4 : decode cX6_has 4 = .ok (.iand, 1) := by decide +kernel
theorem dX6_has_5 : decode cX6_has 5 = .ok (.iconst 1, 1) := by decide +kernel
theorem dX6_has_6 : decode cX6_has 6 = .ok (.if_icmp .ne 7, 3) := by decide +kernel
theorem dX6_has_9 : decode cX6_has 9 = .ok (.iconst 1, 1) := by decide +kernel
theorem dX6_has_10 : decode cX6_has 10 = .ok (.goto 4, 3) := by decide +kernel
theorem dX6_has_13 : decode cX6_has 13 = .ok (.iconst 0, 1) := by decide +kernel
theorem dX6_has_14 : decode cX6_has 14 = .ok (.ireturn, 1) := by decide +kernel
theorem dX6_ones_0 : decode cX6_ones 0 = .ok (.iconst 0, 1) := by decide +kernel
theorem dX6_ones_1 : decode cX6_ones 1 = .ok (.istore_n 1, 1) := by decide +kernel
theorem dX6_ones_2 : decode cX6_ones 2 = .ok (.iconst 0, 1) := by decide +kernel
theorem dX6_ones_3 : decode cX6_ones 3 = .ok (.istore_n 2, 1) := by decide +kernel
theorem dX6_ones_4 : decode cX6_ones 4 = .ok (.iload_n 2, 1) := by decide +kernel
theorem dX6_ones_5 : decode cX6_ones 5 = .ok (.bipush 14, 2) := by decide +kernel
theorem dX6_ones_7 : decode cX6_ones 7 = .ok (.if_icmp .ge 17, 3) := by decide +kernel
theorem dX6_ones_10 : decode cX6_ones 10 = .ok (.iload_n 1, 1) := by decide +kernel
theorem dX6_ones_11 : decode cX6_ones 11 = .ok (.iload_n 0, 1) := by decide +kernel
theorem dX6_ones_12 : decode cX6_ones 12 = .ok (.iload_n 2, 1) := by decide +kernel
theorem dX6_ones_13 : decode cX6_ones 13 = .ok (.ishr, 1) := by decide +kernel
theorem dX6_ones_14 : decode cX6_ones 14 = .ok (.iconst 1, 1) := by decide +kernel
theorem dX6_ones_15 : decode cX6_ones 15 = .ok (.iand, 1) := by decide +kernel
theorem dX6_ones_16 : decode cX6_ones 16 = .ok (.iadd, 1) := by decide +kernel
theorem dX6_ones_17 : decode cX6_ones 17 = .ok (.istore_n 1, 1) := by decide +kernel
theorem dX6_ones_18 : decode cX6_ones 18 = .ok (.iinc 2 1, 3) := by decide +kernel
theorem dX6_ones_21 : decode cX6_ones 21 = .ok (.goto (-17), 3) := by decide +kernel
theorem dX6_ones_24 : decode cX6_ones 24 = .ok (.iload_n 1, 1) := by decide +kernel
theorem dX6_ones_25 : decode cX6_ones 25 = .ok (.ireturn, 1) := by decide +kernel
theorem dX6_power_0 : decode cX6_power 0 = .ok (.iconst 1, 1) := by decide +kernel
theorem dX6_power_1 : decode cX6_power 1 = .ok (.istore_n 2, 1) := by decide +kernel
theorem dX6_power_2 : decode cX6_power 2 = .ok (.iconst 0, 1) := by decide +kernel
theorem dX6_power_3 : decode cX6_power 3 = .ok (.istore_n 3, 1) := by decide +kernel
theorem dX6_power_4 : decode cX6_power 4 = .ok (.iload_n 3, 1) := by decide +kernel
theorem dX6_power_5 : decode cX6_power 5 = .ok (.iload_n 1, 1) := by decide +kernel
theorem dX6_power_6 : decode cX6_power 6 = .ok (.if_icmp .ge 13, 3) := by decide +kernel
theorem dX6_power_9 : decode cX6_power 9 = .ok (.iload_n 2, 1) := by decide +kernel
theorem dX6_power_10 : decode cX6_power 10 = .ok (.iload_n 0, 1) := by decide +kernel
theorem dX6_power_11 : decode cX6_power 11 = .ok (.imul, 1) := by decide +kernel
theorem dX6_power_12 : decode cX6_power 12 = .ok (.istore_n 2, 1) := by decide +kernel
theorem dX6_power_13 : decode cX6_power 13 = .ok (.iinc 3 1, 3) := by decide +kernel
theorem dX6_power_16 : decode cX6_power 16 = .ok (.goto (-12), 3) := by decide +kernel
theorem dX6_power_19 : decode cX6_power 19 = .ok (.iload_n 2, 1) := by decide +kernel
theorem dX6_power_20 : decode cX6_power 20 = .ok (.ireturn, 1) := by decide +kernel
theorem dX6_factorial_0 : decode cX6_factorial 0 = .ok (.iconst 1, 1) := by decide +kernel
theorem dX6_factorial_1 : decode cX6_factorial 1 = .ok (.istore_n 1, 1) := by decide +kernel
theorem dX6_factorial_2 : decode cX6_factorial 2 = .ok (.iconst 2, 1) := by decide +kernel
theorem dX6_factorial_3 : decode cX6_factorial 3 = .ok (.istore_n 2, 1) := by decide +kernel
theorem dX6_factorial_4 : decode cX6_factorial 4 = .ok (.iload_n 2, 1) := by decide +kernel
theorem dX6_factorial_5 : decode cX6_factorial 5 = .ok (.iload_n 0, 1) := by decide +kernel
theorem dX6_factorial_6 : decode cX6_factorial 6 = .ok (.if_icmp .gt 13, 3) := by decide +kernel
theorem dX6_factorial_9 : decode cX6_factorial 9 = .ok (.iload_n 1, 1) := by decide +kernel
theorem dX6_factorial_10 : decode cX6_factorial 10 = .ok (.iload_n 2, 1) := by decide +kernel
theorem dX6_factorial_11 : decode cX6_factorial 11 = .ok (.imul, 1) := by decide +kernel
theorem dX6_factorial_12 : decode cX6_factorial 12 = .ok (.istore_n 1, 1) := by decide +kernel
theorem dX6_factorial_13 : decode cX6_factorial 13 = .ok (.iinc 2 1, 3) := by decide +kernel
theorem dX6_factorial_16 : decode cX6_factorial 16 = .ok (.goto (-12), 3) := by decide +kernel
theorem dX6_factorial_19 : decode cX6_factorial 19 = .ok (.iload_n 1, 1) := by decide +kernel
theorem dX6_factorial_20 : decode cX6_factorial 20 = .ok (.ireturn, 1) := by decide +kernel
theorem dX6_fraction_0 : decode cX6_fraction 0 = .ok (.iload_n 0, 1) := by decide +kernel
theorem dX6_fraction_1 : decode cX6_fraction 1 = .ok (.ifCond .ge 8, 3) := by decide +kernel
theorem dX6_fraction_4 : decode cX6_fraction 4 = .ok (.iload_n 0, 1) := by decide +kernel
theorem dX6_fraction_5 : decode cX6_fraction 5 = .ok (.ineg, 1) := by decide +kernel
theorem dX6_fraction_6 : decode cX6_fraction 6 = .ok (.goto 4, 3) := by decide +kernel
theorem dX6_fraction_9 : decode cX6_fraction 9 = .ok (.iload_n 0, 1) := by decide +kernel
theorem dX6_fraction_10 : decode cX6_fraction 10 = .ok (.istore_n 3, 1) := by decide +kernel
theorem dX6_fraction_11 : decode cX6_fraction 11 = .ok (.iload_n 1, 1) := by decide +kernel
theorem dX6_fraction_12 : decode cX6_fraction 12 = .ok (.istore 4, 2) := by decide +kernel
theorem dX6_fraction_14 : decode cX6_fraction 14 = .ok (.iload 4, 2) := by decide +kernel
theorem dX6_fraction_16 : decode cX6_fraction 16 = .ok (.ifCond .eq 19, 3) := by decide +kernel
theorem dX6_fraction_19 : decode cX6_fraction 19 = .ok (.iload_n 3, 1) := by decide +kernel
theorem dX6_fraction_20 : decode cX6_fraction 20 = .ok (.iload 4, 2) := by decide +kernel
theorem dX6_fraction_22 : decode cX6_fraction 22 = .ok (.irem, 1) := by decide +kernel
theorem dX6_fraction_23 : decode cX6_fraction 23 = .ok (.istore 5, 2) := by decide +kernel
theorem dX6_fraction_25 : decode cX6_fraction 25 = .ok (.iload 4, 2) := by decide +kernel
theorem dX6_fraction_27 : decode cX6_fraction 27 = .ok (.istore_n 3, 1) := by decide +kernel
theorem dX6_fraction_28 : decode cX6_fraction 28 = .ok (.iload 5, 2) := by decide +kernel
theorem dX6_fraction_30 : decode cX6_fraction 30 = .ok (.istore 4, 2) := by decide +kernel
theorem dX6_fraction_32 : decode cX6_fraction 32 = .ok (.goto (-18), 3) := by decide +kernel
theorem dX6_fraction_35 : decode cX6_fraction 35 = .ok (.iload_n 2, 1) := by decide +kernel
theorem dX6_fraction_36 : decode cX6_fraction 36 = .ok (.ifCond .eq 9, 3) := by decide +kernel
theorem dX6_fraction_39 : decode cX6_fraction 39 = .ok (.iload_n 0, 1) := by decide +kernel
theorem dX6_fraction_40 : decode cX6_fraction 40 = .ok (.iload_n 3, 1) := by decide +kernel
theorem dX6_fraction_41 : decode cX6_fraction 41 = .ok (.idiv, 1) := by decide +kernel
theorem dX6_fraction_42 : decode cX6_fraction 42 = .ok (.goto 6, 3) := by decide +kernel
theorem dX6_fraction_45 : decode cX6_fraction 45 = .ok (.iload_n 1, 1) := by decide +kernel
theorem dX6_fraction_46 : decode cX6_fraction 46 = .ok (.iload_n 3, 1) := by decide +kernel
theorem dX6_fraction_47 : decode cX6_fraction 47 = .ok (.idiv, 1) := by decide +kernel
theorem dX6_fraction_48 : decode cX6_fraction 48 = .ok (.ireturn, 1) := by decide +kernel
theorem dX6_isOffset_0 : decode cX6_isOffset 0 = .ok (.iload_n 0, 1) := by decide +kernel
theorem dX6_isOffset_1 : decode cX6_isOffset 1 = .ok (.i2l, 1) := by decide +kernel
theorem dX6_isOffset_2 : decode cX6_isOffset 2 = .ok (.lconst 0, 1) := by decide +kernel
theorem dX6_isOffset_3 : decode cX6_isOffset 3 = .ok (.ldc2_w 66, 3) := by decide +kernel
theorem dX6_isOffset_6 : decode cX6_isOffset 6 = .ok (.invokestatic 68, 3) := by decide +kernel
theorem dX6_isOffset_9 : decode cX6_isOffset 9 = .ok (.ireturn, 1) := by decide +kernel
theorem dX6_left_0 : decode cX6_left 0 = .ok (.iload_n 1, 1) := by decide +kernel
theorem dX6_left_1 : decode cX6_left 1 = .ok (.istore_n 2, 1) := by decide +kernel
theorem dX6_left_2 : decode cX6_left 2 = .ok (.bipush 13, 2) := by decide +kernel
theorem dX6_left_4 : decode cX6_left 4 = .ok (.istore_n 3, 1) := by decide +kernel
theorem dX6_left_5 : decode cX6_left 5 = .ok (.iload_n 3, 1) := by decide +kernel
theorem dX6_left_6 : decode cX6_left 6 = .ok (.iconst 5, 1) := by decide +kernel
theorem dX6_left_7 : decode cX6_left 7 = .ok (.if_icmp .le 32, 3) := by decide +kernel
theorem dX6_left_10 : decode cX6_left 10 = .ok (.iload_n 2, 1) := by decide +kernel
theorem dX6_left_11 : decode cX6_left 11 = .ok (.iload_n 3, 1) := by decide +kernel
theorem dX6_left_12 : decode cX6_left 12 = .ok (.invokestatic 72, 3) := by decide +kernel
theorem dX6_left_15 : decode cX6_left 15 = .ok (.ifCond .eq 18, 3) := by decide +kernel
theorem dX6_left_18 : decode cX6_left 18 = .ok (.iload_n 2, 1) := by decide +kernel
theorem dX6_left_19 : decode cX6_left 19 = .ok (.bipush 64, 2) := by decide +kernel
theorem dX6_left_21 : decode cX6_left 21 = .ok (.aload_n 0, 1) := by decide +kernel
theorem dX6_left_22 : decode cX6_left 22 = .ok (.getfield 53, 3) := by decide +kernel
theorem dX6_left_25 : decode cX6_left 25 = .ok (.ior, 1) := by decide +kernel
theorem dX6_left_26 : decode cX6_left 26 = .ok (.iload_n 3, 1) := by decide +kernel
theorem dX6_left_27 : decode cX6_left 27 = .ok (.bipush 6, 2) := by decide +kernel
theorem dX6_left_29 : decode cX6_left 29 = .ok (.isub, 1) := by decide +kernel
theorem dX6_left_30 : decode cX6_left 30 = .ok (.ishl, 1) := by decide +kernel
theorem dX6_left_31 : decode cX6_left 31 = .ok (.ixor, 1) := by decide +kernel
theorem dX6_left_32 : decode cX6_left 32 = .ok (.istore_n 2, 1) := by decide +kernel
theorem dX6_left_33 : decode cX6_left 33 = .ok (.iinc 3 (-1), 3) := by decide +kernel
theorem dX6_left_36 : decode cX6_left 36 = .ok (.goto (-31), 3) := by decide +kernel
theorem dX6_left_39 : decode cX6_left 39 = .ok (.iload_n 2, 1) := by decide +kernel
theorem dX6_left_40 : decode cX6_left 40 = .ok (.ireturn, 1) := by decide +kernel
theorem dX6_spanOf_0 : decode cX6_spanOf 0 = .ok (.iconst 0, 1) := by decide +kernel
theorem dX6_spanOf_1 : decode cX6_spanOf 1 = .ok (.istore_n 1, 1) := by decide +kernel
theorem dX6_spanOf_2 : decode cX6_spanOf 2 = .ok (.iload_n 0, 1) := by decide +kernel
theorem dX6_spanOf_3 : decode cX6_spanOf 3 = .ok (.iload_n 1, 1) := by decide +kernel
theorem dX6_spanOf_4 : decode cX6_spanOf 4 = .ok (.invokestatic 72, 3) := by decide +kernel
theorem dX6_spanOf_7 : decode cX6_spanOf 7 = .ok (.ifCond .ne 9, 3) := by decide +kernel
theorem dX6_spanOf_10 : decode cX6_spanOf 10 = .ok (.iinc 1 1, 3) := by decide +kernel
theorem dX6_spanOf_13 : decode cX6_spanOf 13 = .ok (.goto (-11), 3) := by decide +kernel
theorem dX6_spanOf_16 : decode cX6_spanOf 16 = .ok (.bipush 13, 2) := by decide +kernel
theorem dX6_spanOf_18 : decode cX6_spanOf 18 = .ok (.istore_n 2, 1) := by decide +kernel
theorem dX6_spanOf_19 : decode cX6_spanOf 19 = .ok (.iload_n 0, 1) := by decide +kernel
theorem dX6_spanOf_20 : decode cX6_spanOf 20 = .ok (.iload_n 2, 1) := by decide +kernel
theorem dX6_spanOf_21 : decode cX6_spanOf 21 = .ok (.invokestatic 72, 3) := by decide +kernel
theorem dX6_spanOf_24 : decode cX6_spanOf 24 = .ok (.ifCond .ne 9, 3) := by decide +kernel
theorem dX6_spanOf_27 : decode cX6_spanOf 27 = .ok (.iinc 2 (-1), 3) := by decide +kernel
theorem dX6_spanOf_30 : decode cX6_spanOf 30 = .ok (.goto (-11), 3) := by decide +kernel
theorem dX6_spanOf_33 : decode cX6_spanOf 33 = .ok (.iload_n 2, 1) := by decide +kernel
theorem dX6_spanOf_34 : decode cX6_spanOf 34 = .ok (.iload_n 1, 1) := by decide +kernel
theorem dX6_spanOf_35 : decode cX6_spanOf 35 = .ok (.isub, 1) := by decide +kernel
theorem dX6_spanOf_36 : decode cX6_spanOf 36 = .ok (.ireturn, 1) := by decide +kernel
theorem dX6_layBursts_0 : decode cX6_layBursts 0 = .ok (.aload_n 0, 1) := by decide +kernel
theorem dX6_layBursts_1 : decode cX6_layBursts 1 = .ok (.iconst 0, 1) := by decide +kernel
theorem dX6_layBursts_2 : decode cX6_layBursts 2 = .ok (.putfield 76, 3) := by decide +kernel
theorem dX6_layBursts_5 : decode cX6_layBursts 5 = .ok (.aload_n 0, 1) := by decide +kernel
theorem dX6_layBursts_6 : decode cX6_layBursts 6 = .ok (.iconst 0, 1) := by decide +kernel
theorem dX6_layBursts_7 : decode cX6_layBursts 7 = .ok (.putfield 79, 3) := by decide +kernel
theorem dX6_layBursts_10 : decode cX6_layBursts 10 = .ok (.iconst 0, 1) := by decide +kernel
theorem dX6_layBursts_11 : decode cX6_layBursts 11 = .ok (.istore_n 1, 1) := by decide +kernel
theorem dX6_layBursts_12 : decode cX6_layBursts 12 = .ok (.iload_n 1, 1) := by decide +kernel
theorem dX6_layBursts_13 : decode cX6_layBursts 13 = .ok (.bipush 64, 2) := by decide +kernel
theorem dX6_layBursts_15 : decode cX6_layBursts 15 = .ok (.if_icmp .ge 16, 3) := by decide +kernel
theorem dX6_layBursts_18 : decode cX6_layBursts 18 = .ok (.aload_n 0, 1) := by decide +kernel
theorem dX6_layBursts_19 : decode cX6_layBursts 19 = .ok (.getfield 16, 3) := by decide +kernel
theorem dX6_layBursts_22 : decode cX6_layBursts 22 = .ok (.iload_n 1, 1) := by decide +kernel
theorem dX6_layBursts_23 : decode cX6_layBursts 23 = .ok (.iconst 0, 1) := by decide +kernel
theorem dX6_layBursts_24 : decode cX6_layBursts 24 = .ok (.iastore, 1) := by decide +kernel
theorem dX6_layBursts_25 : decode cX6_layBursts 25 = .ok (.iinc 1 1, 3) := by decide +kernel
theorem dX6_layBursts_28 : decode cX6_layBursts 28 = .ok (.goto (-16), 3) := by decide +kernel
theorem dX6_layBursts_31 : decode cX6_layBursts 31 = .ok (.iconst 1, 1) := by decide +kernel
theorem dX6_layBursts_32 : decode cX6_layBursts 32 = .ok (.istore_n 1, 1) := by decide +kernel
theorem dX6_layBursts_33 : decode cX6_layBursts 33 = .ok (.iload_n 1, 1) := by decide +kernel
theorem dX6_layBursts_34 : decode cX6_layBursts 34 = .ok (.sipush 16383, 3) := by decide +kernel
theorem dX6_layBursts_37 : decode cX6_layBursts 37 = .ok (.if_icmp .gt 60, 3) := by decide +kernel
theorem dX6_layBursts_40 : decode cX6_layBursts 40 = .ok (.aload_n 0, 1) := by decide +kernel
theorem dX6_layBursts_41 : decode cX6_layBursts 41 = .ok (.getfield 82, 3) := by decide +kernel
theorem dX6_layBursts_44 : decode cX6_layBursts 44 = .ok (.ifCond .le 53, 3) := by decide +kernel
theorem dX6_layBursts_47 : decode cX6_layBursts 47 = .ok (.iload_n 1, 1) := by decide +kernel
theorem dX6_layBursts_48 : decode cX6_layBursts 48 = .ok (.invokestatic 85, 3) := by decide +kernel
theorem dX6_layBursts_51 : decode cX6_layBursts 51 = .ok (.aload_n 0, 1) := by decide +kernel
theorem dX6_layBursts_52 : decode cX6_layBursts 52 = .ok (.getfield 82, 3) := by decide +kernel
theorem dX6_layBursts_55 : decode cX6_layBursts 55 = .ok (.if_icmp .ge 36, 3) := by decide +kernel
theorem dX6_layBursts_58 : decode cX6_layBursts 58 = .ok (.aload_n 0, 1) := by decide +kernel
theorem dX6_layBursts_59 : decode cX6_layBursts 59 = .ok (.iload_n 1, 1) := by decide +kernel
theorem dX6_layBursts_60 : decode cX6_layBursts 60 = .ok (.invokevirtual 89, 3) := by decide +kernel
theorem dX6_layBursts_63 : decode cX6_layBursts 63 = .ok (.istore_n 2, 1) := by decide +kernel
theorem dX6_layBursts_64 : decode cX6_layBursts 64 = .ok (.aload_n 0, 1) := by decide +kernel
theorem dX6_layBursts_65 : decode cX6_layBursts 65 = .ok (.getfield 16, 3) := by decide +kernel
theorem dX6_layBursts_68 : decode cX6_layBursts 68 = .ok (.iload_n 2, 1) := by decide +kernel
theorem dX6_layBursts_69 : decode cX6_layBursts 69 = .ok (.dup2, 1) := by decide +kernel
theorem dX6_layBursts_70 : decode cX6_layBursts 70 = .ok (.iaload, 1) := by decide +kernel
theorem dX6_layBursts_71 : decode cX6_layBursts 71 = .ok (.iconst 1, 1) := by decide +kernel
theorem dX6_layBursts_72 : decode cX6_layBursts 72 = .ok (.iadd, 1) := by decide +kernel
theorem dX6_layBursts_73 : decode cX6_layBursts 73 = .ok (.iastore, 1) := by decide +kernel
theorem dX6_layBursts_74 : decode cX6_layBursts 74 = .ok (.aload_n 0, 1) := by decide +kernel
theorem dX6_layBursts_75 : decode cX6_layBursts 75 = .ok (.getfield 19, 3) := by decide +kernel
theorem dX6_layBursts_78 : decode cX6_layBursts 78 = .ok (.iload_n 2, 1) := by decide +kernel
theorem dX6_layBursts_79 : decode cX6_layBursts 79 = .ok (.iload_n 1, 1) := by decide +kernel
theorem dX6_layBursts_80 : decode cX6_layBursts 80 = .ok (.iastore, 1) := by decide +kernel
theorem dX6_layBursts_81 : decode cX6_layBursts 81 = .ok (.aload_n 0, 1) := by decide +kernel
theorem dX6_layBursts_82 : decode cX6_layBursts 82 = .ok (.dup, 1) := by decide +kernel
theorem dX6_layBursts_83 : decode cX6_layBursts 83 = .ok (.getfield 76, 3) := by decide +kernel
theorem dX6_layBursts_86 : decode cX6_layBursts 86 = .ok (.iconst 1, 1) := by decide +kernel
theorem dX6_layBursts_87 : decode cX6_layBursts 87 = .ok (.iadd, 1) := by decide +kernel
theorem dX6_layBursts_88 : decode cX6_layBursts 88 = .ok (.putfield 76, 3) := by decide +kernel
theorem dX6_layBursts_91 : decode cX6_layBursts 91 = .ok (.iinc 1 1, 3) := by decide +kernel
theorem dX6_layBursts_94 : decode cX6_layBursts 94 = .ok (.goto (-61), 3) := by decide +kernel
theorem dX6_layBursts_97 : decode cX6_layBursts 97 = .ok (.iconst 1, 1) := by decide +kernel
theorem dX6_layBursts_98 : decode cX6_layBursts 98 = .ok (.istore_n 1, 1) := by decide +kernel
theorem dX6_layBursts_99 : decode cX6_layBursts 99 = .ok (.iload_n 1, 1) := by decide +kernel
theorem dX6_layBursts_100 : decode cX6_layBursts 100 = .ok (.bipush 64, 2) := by decide +kernel
theorem dX6_layBursts_102 : decode cX6_layBursts 102 = .ok (.if_icmp .ge 33, 3) := by decide +kernel
theorem dX6_layBursts_105 : decode cX6_layBursts 105 = .ok (.aload_n 0, 1) := by decide +kernel
theorem dX6_layBursts_106 : decode cX6_layBursts 106 = .ok (.dup, 1) := by decide +kernel
theorem dX6_layBursts_107 : decode cX6_layBursts 107 = .ok (.getfield 79, 3) := by decide +kernel
theorem dX6_layBursts_110 : decode cX6_layBursts 110 = .ok (.aload_n 0, 1) := by decide +kernel
theorem dX6_layBursts_111 : decode cX6_layBursts 111 = .ok (.getfield 16, 3) := by decide +kernel
theorem dX6_layBursts_114 : decode cX6_layBursts 114 = .ok (.iload_n 1, 1) := by decide +kernel
theorem dX6_layBursts_115 : decode cX6_layBursts 115 = .ok (.iaload, 1) := by decide +kernel
theorem dX6_layBursts_116 : decode cX6_layBursts 116 = .ok (.iconst 1, 1) := by decide +kernel
theorem dX6_layBursts_117 : decode cX6_layBursts 117 = .ok (.if_icmp .ne 7, 3) := by decide +kernel
theorem dX6_layBursts_120 : decode cX6_layBursts 120 = .ok (.iconst 1, 1) := by decide +kernel
theorem dX6_layBursts_121 : decode cX6_layBursts 121 = .ok (.goto 4, 3) := by decide +kernel
theorem dX6_layBursts_124 : decode cX6_layBursts 124 = .ok (.iconst 0, 1) := by decide +kernel
theorem dX6_layBursts_125 : decode cX6_layBursts 125 = .ok (.iadd, 1) := by decide +kernel
theorem dX6_layBursts_126 : decode cX6_layBursts 126 = .ok (.putfield 79, 3) := by decide +kernel
theorem dX6_layBursts_129 : decode cX6_layBursts 129 = .ok (.iinc 1 1, 3) := by decide +kernel
theorem dX6_layBursts_132 : decode cX6_layBursts 132 = .ok (.goto (-33), 3) := by decide +kernel
theorem dX6_layBursts_135 : decode cX6_layBursts 135 = .ok (.return_, 1) := by decide +kernel
theorem dX6_wordOf_0 : decode cX6_wordOf 0 = .ok (.bipush 64, 2) := by decide +kernel
theorem dX6_wordOf_2 : decode cX6_wordOf 2 = .ok (.iload_n 2, 1) := by decide +kernel
theorem dX6_wordOf_3 : decode cX6_wordOf 3 = .ok (.imul, 1) := by decide +kernel
theorem dX6_wordOf_4 : decode cX6_wordOf 4 = .ok (.aload_n 0, 1) := by decide +kernel
theorem dX6_wordOf_5 : decode cX6_wordOf 5 = .ok (.bipush 64, 2) := by decide +kernel
theorem dX6_wordOf_7 : decode cX6_wordOf 7 = .ok (.iload_n 2, 1) := by decide +kernel
theorem dX6_wordOf_8 : decode cX6_wordOf 8 = .ok (.imul, 1) := by decide +kernel
theorem dX6_wordOf_9 : decode cX6_wordOf 9 = .ok (.invokevirtual 89, 3) := by decide +kernel
theorem dX6_wordOf_12 : decode cX6_wordOf 12 = .ok (.aload_n 0, 1) := by decide +kernel
theorem dX6_wordOf_13 : decode cX6_wordOf 13 = .ok (.getfield 13, 3) := by decide +kernel
theorem dX6_wordOf_16 : decode cX6_wordOf 16 = .ok (.iload_n 1, 1) := by decide +kernel
theorem dX6_wordOf_17 : decode cX6_wordOf 17 = .ok (.iaload, 1) := by decide +kernel
theorem dX6_wordOf_18 : decode cX6_wordOf 18 = .ok (.ixor, 1) := by decide +kernel
theorem dX6_wordOf_19 : decode cX6_wordOf 19 = .ok (.iadd, 1) := by decide +kernel
theorem dX6_wordOf_20 : decode cX6_wordOf 20 = .ok (.ireturn, 1) := by decide +kernel
theorem dX6_restOf_0 : decode cX6_restOf 0 = .ok (.aload_n 0, 1) := by decide +kernel
theorem dX6_restOf_1 : decode cX6_restOf 1 = .ok (.iload_n 2, 1) := by decide +kernel
theorem dX6_restOf_2 : decode cX6_restOf 2 = .ok (.aload_n 0, 1) := by decide +kernel
theorem dX6_restOf_3 : decode cX6_restOf 3 = .ok (.getfield 13, 3) := by decide +kernel
theorem dX6_restOf_6 : decode cX6_restOf 6 = .ok (.iload_n 1, 1) := by decide +kernel
theorem dX6_restOf_7 : decode cX6_restOf 7 = .ok (.iaload, 1) := by decide +kernel
theorem dX6_restOf_8 : decode cX6_restOf 8 = .ok (.ixor, 1) := by decide +kernel
theorem dX6_restOf_9 : decode cX6_restOf 9 = .ok (.invokevirtual 89, 3) := by decide +kernel
theorem dX6_restOf_12 : decode cX6_restOf 12 = .ok (.ireturn, 1) := by decide +kernel
theorem dX6_sureOf_0 : decode cX6_sureOf 0 = .ok (.iload_n 1, 1) := by decide +kernel
theorem dX6_sureOf_1 : decode cX6_sureOf 1 = .ok (.ifCond .le 22, 3) := by decide +kernel
theorem dX6_sureOf_4 : decode cX6_sureOf 4 = .ok (.aload_n 0, 1) := by decide +kernel
theorem dX6_sureOf_5 : decode cX6_sureOf 5 = .ok (.getfield 16, 3) := by decide +kernel
theorem dX6_sureOf_8 : decode cX6_sureOf 8 = .ok (.iload_n 1, 1) := by decide +kernel
theorem dX6_sureOf_9 : decode cX6_sureOf 9 = .ok (.iaload, 1) := by decide +kernel
theorem dX6_sureOf_10 : decode cX6_sureOf 10 = .ok (.iconst 1, 1) := by decide +kernel
theorem dX6_sureOf_11 : decode cX6_sureOf 11 = .ok (.if_icmp .ne 12, 3) := by decide +kernel
theorem dX6_sureOf_14 : decode cX6_sureOf 14 = .ok (.aload_n 0, 1) := by decide +kernel
theorem dX6_sureOf_15 : decode cX6_sureOf 15 = .ok (.getfield 19, 3) := by decide +kernel
theorem dX6_sureOf_18 : decode cX6_sureOf 18 = .ok (.iload_n 1, 1) := by decide +kernel
theorem dX6_sureOf_19 : decode cX6_sureOf 19 = .ok (.iaload, 1) := by decide +kernel
theorem dX6_sureOf_20 : decode cX6_sureOf 20 = .ok (.goto 4, 3) := by decide +kernel
theorem dX6_sureOf_23 : decode cX6_sureOf 23 = .ok (.iconst 0, 1) := by decide +kernel
theorem dX6_sureOf_24 : decode cX6_sureOf 24 = .ok (.ireturn, 1) := by decide +kernel
theorem dX6_write_0 : decode cX6_write 0 = .ok (.iload_n 1, 1) := by decide +kernel
theorem dX6_write_1 : decode cX6_write 1 = .ok (.i2l, 1) := by decide +kernel
theorem dX6_write_2 : decode cX6_write 2 = .ok (.lconst 0, 1) := by decide +kernel
theorem dX6_write_3 : decode cX6_write 3 = .ok (.ldc2_w 92, 3) := by decide +kernel
theorem dX6_write_6 : decode cX6_write 6 = .ok (.invokestatic 68, 3) := by decide +kernel
theorem dX6_write_9 : decode cX6_write 9 = .ok (.ifCond .ne 6, 3) := by decide +kernel
theorem dX6_write_12 : decode cX6_write 12 = .ok (.bipush (-2), 2) := by decide +kernel
theorem dX6_write_14 : decode cX6_write 14 = .ok (.ireturn, 1) := by decide +kernel
theorem dX6_write_15 : decode cX6_write 15 = .ok (.aload_n 0, 1) := by decide +kernel
theorem dX6_write_16 : decode cX6_write 16 = .ok (.getfield 94, 3) := by decide +kernel
theorem dX6_write_19 : decode cX6_write 19 = .ok (.bipush 40, 2) := by decide +kernel
theorem dX6_write_21 : decode cX6_write 21 = .ok (.if_icmp .ne 6, 3) := by decide +kernel
theorem dX6_write_24 : decode cX6_write 24 = .ok (.bipush (-4), 2) := by decide +kernel
theorem dX6_write_26 : decode cX6_write 26 = .ok (.ireturn, 1) := by decide +kernel
theorem dX6_write_27 : decode cX6_write 27 = .ok (.aload_n 0, 1) := by decide +kernel
theorem dX6_write_28 : decode cX6_write 28 = .ok (.getfield 7, 3) := by decide +kernel
theorem dX6_write_31 : decode cX6_write 31 = .ok (.aload_n 0, 1) := by decide +kernel
theorem dX6_write_32 : decode cX6_write 32 = .ok (.getfield 94, 3) := by decide +kernel
theorem dX6_write_35 : decode cX6_write 35 = .ok (.iload_n 1, 1) := by decide +kernel
theorem dX6_write_36 : decode cX6_write 36 = .ok (.iastore, 1) := by decide +kernel
theorem dX6_write_37 : decode cX6_write 37 = .ok (.aload_n 0, 1) := by decide +kernel
theorem dX6_write_38 : decode cX6_write 38 = .ok (.dup, 1) := by decide +kernel
theorem dX6_write_39 : decode cX6_write 39 = .ok (.getfield 94, 3) := by decide +kernel
theorem dX6_write_42 : decode cX6_write 42 = .ok (.iconst 1, 1) := by decide +kernel
theorem dX6_write_43 : decode cX6_write 43 = .ok (.iadd, 1) := by decide +kernel
theorem dX6_write_44 : decode cX6_write 44 = .ok (.putfield 94, 3) := by decide +kernel
theorem dX6_write_47 : decode cX6_write 47 = .ok (.aload_n 0, 1) := by decide +kernel
theorem dX6_write_48 : decode cX6_write 48 = .ok (.getfield 94, 3) := by decide +kernel
theorem dX6_write_51 : decode cX6_write 51 = .ok (.ireturn, 1) := by decide +kernel
theorem dX6_wipe_0 : decode cX6_wipe 0 = .ok (.aload_n 0, 1) := by decide +kernel
theorem dX6_wipe_1 : decode cX6_wipe 1 = .ok (.getfield 94, 3) := by decide +kernel
theorem dX6_wipe_4 : decode cX6_wipe 4 = .ok (.istore_n 1, 1) := by decide +kernel
theorem dX6_wipe_5 : decode cX6_wipe 5 = .ok (.aload_n 0, 1) := by decide +kernel
theorem dX6_wipe_6 : decode cX6_wipe 6 = .ok (.iconst 0, 1) := by decide +kernel
theorem dX6_wipe_7 : decode cX6_wipe 7 = .ok (.putfield 94, 3) := by decide +kernel
theorem dX6_wipe_10 : decode cX6_wipe 10 = .ok (.iload_n 1, 1) := by decide +kernel
theorem dX6_wipe_11 : decode cX6_wipe 11 = .ok (.ireturn, 1) := by decide +kernel
theorem dX6_isNew_0 : decode cX6_isNew 0 = .ok (.iload_n 2, 1) := by decide +kernel
theorem dX6_isNew_1 : decode cX6_isNew 1 = .ok (.bipush 64, 2) := by decide +kernel
theorem dX6_isNew_3 : decode cX6_isNew 3 = .ok (.if_icmp .ge 7, 3) := by decide +kernel
theorem dX6_isNew_6 : decode cX6_isNew 6 = .ok (.iconst 1, 1) := by decide +kernel
theorem dX6_isNew_7 : decode cX6_isNew 7 = .ok (.goto 4, 3) := by decide +kernel
theorem dX6_isNew_10 : decode cX6_isNew 10 = .ok (.iconst 0, 1) := by decide +kernel
theorem dX6_isNew_11 : decode cX6_isNew 11 = .ok (.istore_n 3, 1) := by decide +kernel
theorem dX6_isNew_12 : decode cX6_isNew 12 = .ok (.iconst 0, 1) := by decide +kernel
theorem dX6_isNew_13 : decode cX6_isNew 13 = .ok (.istore 4, 2) := by decide +kernel
theorem dX6_isNew_15 : decode cX6_isNew 15 = .ok (.iload 4, 2) := by decide +kernel
theorem dX6_isNew_17 : decode cX6_isNew 17 = .ok (.iload_n 1, 1) := by decide +kernel
theorem dX6_isNew_18 : decode cX6_isNew 18 = .ok (.if_icmp .ge 30, 3) := by decide +kernel
theorem dX6_isNew_21 : decode cX6_isNew 21 = .ok (.iload_n 3, 1) := by decide +kernel
theorem dX6_isNew_22 : decode cX6_isNew 22 = .ok (.ifCond .eq 18, 3) := by decide +kernel
theorem dX6_isNew_25 : decode cX6_isNew 25 = .ok (.aload_n 0, 1) := by decide +kernel
theorem dX6_isNew_26 : decode cX6_isNew 26 = .ok (.getfield 50, 3) := by decide +kernel
theorem dX6_isNew_29 : decode cX6_isNew 29 = .ok (.iload 4, 2) := by decide +kernel
theorem dX6_isNew_31 : decode cX6_isNew 31 = .ok (.iaload, 1) := by decide +kernel
theorem dX6_isNew_32 : decode cX6_isNew 32 = .ok (.iload_n 2, 1) := by decide +kernel
theorem dX6_isNew_33 : decode cX6_isNew 33 = .ok (.if_icmp .eq 7, 3) := by decide +kernel
theorem dX6_isNew_36 : decode cX6_isNew 36 = .ok (.iconst 1, 1) := by decide +kernel
theorem dX6_isNew_37 : decode cX6_isNew 37 = .ok (.goto 4, 3) := by decide +kernel
theorem dX6_isNew_40 : decode cX6_isNew 40 = .ok (.iconst 0, 1) := by decide +kernel
theorem dX6_isNew_41 : decode cX6_isNew 41 = .ok (.istore_n 3, 1) := by decide +kernel
theorem dX6_isNew_42 : decode cX6_isNew 42 = .ok (.iinc 4 1, 3) := by decide +kernel
theorem dX6_isNew_45 : decode cX6_isNew 45 = .ok (.goto (-30), 3) := by decide +kernel
theorem dX6_isNew_48 : decode cX6_isNew 48 = .ok (.iload_n 3, 1) := by decide +kernel
theorem dX6_isNew_49 : decode cX6_isNew 49 = .ok (.ireturn, 1) := by decide +kernel
theorem dX6_take_0 : decode cX6_take 0 = .ok (.iload_n 2, 1) := by decide +kernel
theorem dX6_take_1 : decode cX6_take 1 = .ok (.bipush 48, 2) := by decide +kernel
theorem dX6_take_3 : decode cX6_take 3 = .ok (.isub, 1) := by decide +kernel
theorem dX6_take_4 : decode cX6_take 4 = .ok (.istore_n 3, 1) := by decide +kernel
theorem dX6_take_5 : decode cX6_take 5 = .ok (.iload_n 1, 1) := by decide +kernel
theorem dX6_take_6 : decode cX6_take 6 = .ok (.ifCond .ne 15, 3) := by decide +kernel
theorem dX6_take_9 : decode cX6_take 9 = .ok (.iload_n 2, 1) := by decide +kernel
theorem dX6_take_10 : decode cX6_take 10 = .ok (.bipush 83, 2) := by decide +kernel
theorem dX6_take_12 : decode cX6_take 12 = .ok (.if_icmp .ne 7, 3) := by decide +kernel
theorem dX6_take_15 : decode cX6_take 15 = .ok (.iconst 1, 1) := by decide +kernel
theorem dX6_take_16 : decode cX6_take 16 = .ok (.goto 4, 3) := by decide +kernel
theorem dX6_take_19 : decode cX6_take 19 = .ok (.iconst 0, 1) := by decide +kernel
theorem dX6_take_20 : decode cX6_take 20 = .ok (.ireturn, 1) := by decide +kernel
theorem dX6_take_21 : decode cX6_take 21 = .ok (.iload_n 3, 1) := by decide +kernel
theorem dX6_take_22 : decode cX6_take 22 = .ok (.i2l, 1) := by decide +kernel
theorem dX6_take_23 : decode cX6_take 23 = .ok (.lconst 0, 1) := by decide +kernel
theorem dX6_take_24 : decode cX6_take 24 = .ok (.ldc2_w 97, 3) := by decide +kernel
theorem dX6_take_27 : decode cX6_take 27 = .ok (.invokestatic 68, 3) := by decide +kernel
theorem dX6_take_30 : decode cX6_take 30 = .ok (.ifCond .ne 5, 3) := by decide +kernel
theorem dX6_take_33 : decode cX6_take 33 = .ok (.iconst 0, 1) := by decide +kernel
theorem dX6_take_34 : decode cX6_take 34 = .ok (.ireturn, 1) := by decide +kernel
theorem dX6_take_35 : decode cX6_take 35 = .ok (.iload_n 1, 1) := by decide +kernel
theorem dX6_take_36 : decode cX6_take 36 = .ok (.iconst 1, 1) := by decide +kernel
theorem dX6_take_37 : decode cX6_take 37 = .ok (.if_icmp .ne 20, 3) := by decide +kernel
theorem dX6_take_40 : decode cX6_take 40 = .ok (.aload_n 0, 1) := by decide +kernel
theorem dX6_take_41 : decode cX6_take 41 = .ok (.iload_n 3, 1) := by decide +kernel
theorem dX6_take_42 : decode cX6_take 42 = .ok (.putfield 99, 3) := by decide +kernel
theorem dX6_take_45 : decode cX6_take 45 = .ok (.iload_n 3, 1) := by decide +kernel
theorem dX6_take_46 : decode cX6_take 46 = .ok (.bipush 7, 2) := by decide +kernel
theorem dX6_take_48 : decode cX6_take 48 = .ok (.if_icmp .ge 7, 3) := by decide +kernel
theorem dX6_take_51 : decode cX6_take 51 = .ok (.iconst 1, 1) := by decide +kernel
theorem dX6_take_52 : decode cX6_take 52 = .ok (.goto 4, 3) := by decide +kernel
theorem dX6_take_55 : decode cX6_take 55 = .ok (.iconst 0, 1) := by decide +kernel
theorem dX6_take_56 : decode cX6_take 56 = .ok (.ireturn, 1) := by decide +kernel
theorem dX6_take_57 : decode cX6_take 57 = .ok (.iload_n 1, 1) := by decide +kernel
theorem dX6_take_58 : decode cX6_take 58 = .ok (.iconst 2, 1) := by decide +kernel
theorem dX6_take_59 : decode cX6_take 59 = .ok (.if_icmp .ne 38, 3) := by decide +kernel
theorem dX6_take_62 : decode cX6_take 62 = .ok (.aload_n 0, 1) := by decide +kernel
theorem dX6_take_63 : decode cX6_take 63 = .ok (.bipush 10, 2) := by decide +kernel
theorem dX6_take_65 : decode cX6_take 65 = .ok (.aload_n 0, 1) := by decide +kernel
theorem dX6_take_66 : decode cX6_take 66 = .ok (.getfield 99, 3) := by decide +kernel
theorem dX6_take_69 : decode cX6_take 69 = .ok (.imul, 1) := by decide +kernel
theorem dX6_take_70 : decode cX6_take 70 = .ok (.iload_n 3, 1) := by decide +kernel
theorem dX6_take_71 : decode cX6_take 71 = .ok (.iadd, 1) := by decide +kernel
theorem dX6_take_72 : decode cX6_take 72 = .ok (.putfield 99, 3) := by decide +kernel
theorem dX6_take_75 : decode cX6_take 75 = .ok (.iload_n 3, 1) := by decide +kernel
theorem dX6_take_76 : decode cX6_take 76 = .ok (.iconst 2, 1) := by decide +kernel
theorem dX6_take_77 : decode cX6_take 77 = .ok (.irem, 1) := by decide +kernel
theorem dX6_take_78 : decode cX6_take 78 = .ok (.iconst 1, 1) := by decide +kernel
theorem dX6_take_79 : decode cX6_take 79 = .ok (.if_icmp .ne 16, 3) := by decide +kernel
theorem dX6_take_82 : decode cX6_take 82 = .ok (.aload_n 0, 1) := by decide +kernel
theorem dX6_take_83 : decode cX6_take 83 = .ok (.getfield 99, 3) := by decide +kernel
theorem dX6_take_86 : decode cX6_take 86 = .ok (.bipush 64, 2) := by decide +kernel
theorem dX6_take_88 : decode cX6_take 88 = .ok (.if_icmp .ge 7, 3) := by decide +kernel
theorem dX6_take_91 : decode cX6_take 91 = .ok (.iconst 1, 1) := by decide +kernel
theorem dX6_take_92 : decode cX6_take 92 = .ok (.goto 4, 3) := by decide +kernel
theorem dX6_take_95 : decode cX6_take 95 = .ok (.iconst 0, 1) := by decide +kernel
theorem dX6_take_96 : decode cX6_take 96 = .ok (.ireturn, 1) := by decide +kernel
theorem dX6_take_97 : decode cX6_take 97 = .ok (.iload_n 1, 1) := by decide +kernel
theorem dX6_take_98 : decode cX6_take 98 = .ok (.bipush 11, 2) := by decide +kernel
theorem dX6_take_100 : decode cX6_take 100 = .ok (.if_icmp .ge 70, 3) := by decide +kernel
theorem dX6_take_103 : decode cX6_take 103 = .ok (.iload_n 1, 1) := by decide +kernel
theorem dX6_take_104 : decode cX6_take 104 = .ok (.iconst 3, 1) := by decide +kernel
theorem dX6_take_105 : decode cX6_take 105 = .ok (.isub, 1) := by decide +kernel
theorem dX6_take_106 : decode cX6_take 106 = .ok (.iconst 2, 1) := by decide +kernel
theorem dX6_take_107 : decode cX6_take 107 = .ok (.idiv, 1) := by decide +kernel
theorem dX6_take_108 : decode cX6_take 108 = .ok (.istore 4, 2) := by decide +kernel
theorem dX6_take_110 : decode cX6_take 110 = .ok (.iload_n 1, 1) := by decide +kernel
theorem dX6_take_111 : decode cX6_take 111 = .ok (.iconst 2, 1) := by decide +kernel
theorem dX6_take_112 : decode cX6_take 112 = .ok (.irem, 1) := by decide +kernel
theorem dX6_take_113 : decode cX6_take 113 = .ok (.iconst 1, 1) := by decide +kernel
theorem dX6_take_114 : decode cX6_take 114 = .ok (.if_icmp .ne 23, 3) := by decide +kernel
theorem dX6_take_117 : decode cX6_take 117 = .ok (.aload_n 0, 1) := by decide +kernel
theorem dX6_take_118 : decode cX6_take 118 = .ok (.getfield 50, 3) := by decide +kernel
theorem dX6_take_121 : decode cX6_take 121 = .ok (.iload 4, 2) := by decide +kernel
theorem dX6_take_123 : decode cX6_take 123 = .ok (.iload_n 3, 1) := by decide +kernel
theorem dX6_take_124 : decode cX6_take 124 = .ok (.iastore, 1) := by decide +kernel
theorem dX6_take_125 : decode cX6_take 125 = .ok (.iload_n 3, 1) := by decide +kernel
theorem dX6_take_126 : decode cX6_take 126 = .ok (.bipush 7, 2) := by decide +kernel
theorem dX6_take_128 : decode cX6_take 128 = .ok (.if_icmp .ge 7, 3) := by decide +kernel
theorem dX6_take_131 : decode cX6_take 131 = .ok (.iconst 1, 1) := by decide +kernel
theorem dX6_take_132 : decode cX6_take 132 = .ok (.goto 4, 3) := by decide +kernel
theorem dX6_take_135 : decode cX6_take 135 = .ok (.iconst 0, 1) := by decide +kernel
theorem dX6_take_136 : decode cX6_take 136 = .ok (.ireturn, 1) := by decide +kernel
theorem dX6_take_137 : decode cX6_take 137 = .ok (.aload_n 0, 1) := by decide +kernel
theorem dX6_take_138 : decode cX6_take 138 = .ok (.getfield 50, 3) := by decide +kernel
theorem dX6_take_141 : decode cX6_take 141 = .ok (.iload 4, 2) := by decide +kernel
theorem dX6_take_143 : decode cX6_take 143 = .ok (.bipush 10, 2) := by decide +kernel
theorem dX6_take_145 : decode cX6_take 145 = .ok (.aload_n 0, 1) := by decide +kernel
theorem dX6_take_146 : decode cX6_take 146 = .ok (.getfield 50, 3) := by decide +kernel
theorem dX6_take_149 : decode cX6_take 149 = .ok (.iload 4, 2) := by decide +kernel
theorem dX6_take_151 : decode cX6_take 151 = .ok (.iaload, 1) := by decide +kernel
theorem dX6_take_152 : decode cX6_take 152 = .ok (.imul, 1) := by decide +kernel
theorem dX6_take_153 : decode cX6_take 153 = .ok (.iload_n 3, 1) := by decide +kernel
theorem dX6_take_154 : decode cX6_take 154 = .ok (.iadd, 1) := by decide +kernel
theorem dX6_take_155 : decode cX6_take 155 = .ok (.iastore, 1) := by decide +kernel
theorem dX6_take_156 : decode cX6_take 156 = .ok (.aload_n 0, 1) := by decide +kernel
theorem dX6_take_157 : decode cX6_take 157 = .ok (.iload 4, 2) := by decide +kernel
theorem dX6_take_159 : decode cX6_take 159 = .ok (.aload_n 0, 1) := by decide +kernel
theorem dX6_take_160 : decode cX6_take 160 = .ok (.getfield 50, 3) := by decide +kernel
theorem dX6_take_163 : decode cX6_take 163 = .ok (.iload 4, 2) := by decide +kernel
theorem dX6_take_165 : decode cX6_take 165 = .ok (.iaload, 1) := by decide +kernel
theorem dX6_take_166 : decode cX6_take 166 = .ok (.invokevirtual 102, 3) := by decide +kernel
theorem dX6_take_169 : decode cX6_take 169 = .ok (.ireturn, 1) := by decide +kernel
theorem dX6_take_170 : decode cX6_take 170 = .ok (.iload_n 1, 1) := by decide +kernel
theorem dX6_take_171 : decode cX6_take 171 = .ok (.bipush 11, 2) := by decide +kernel
theorem dX6_take_173 : decode cX6_take 173 = .ok (.if_icmp .ne 19, 3) := by decide +kernel
theorem dX6_take_176 : decode cX6_take 176 = .ok (.aload_n 0, 1) := by decide +kernel
theorem dX6_take_177 : decode cX6_take 177 = .ok (.iload_n 3, 1) := by decide +kernel
theorem dX6_take_178 : decode cX6_take 178 = .ok (.putfield 105, 3) := by decide +kernel
theorem dX6_take_181 : decode cX6_take 181 = .ok (.iload_n 3, 1) := by decide +kernel
theorem dX6_take_182 : decode cX6_take 182 = .ok (.iconst 4, 1) := by decide +kernel
theorem dX6_take_183 : decode cX6_take 183 = .ok (.if_icmp .ge 7, 3) := by decide +kernel
theorem dX6_take_186 : decode cX6_take 186 = .ok (.iconst 1, 1) := by decide +kernel
theorem dX6_take_187 : decode cX6_take 187 = .ok (.goto 4, 3) := by decide +kernel
theorem dX6_take_190 : decode cX6_take 190 = .ok (.iconst 0, 1) := by decide +kernel
theorem dX6_take_191 : decode cX6_take 191 = .ok (.ireturn, 1) := by decide +kernel
theorem dX6_take_192 : decode cX6_take 192 = .ok (.aload_n 0, 1) := by decide +kernel
theorem dX6_take_193 : decode cX6_take 193 = .ok (.iload_n 3, 1) := by decide +kernel
theorem dX6_take_194 : decode cX6_take 194 = .ok (.putfield 108, 3) := by decide +kernel
theorem dX6_take_197 : decode cX6_take 197 = .ok (.iload_n 3, 1) := by decide +kernel
theorem dX6_take_198 : decode cX6_take 198 = .ok (.ifCond .le 7, 3) := by decide +kernel
theorem dX6_take_201 : decode cX6_take 201 = .ok (.iconst 1, 1) := by decide +kernel
theorem dX6_take_202 : decode cX6_take 202 = .ok (.goto 4, 3) := by decide +kernel
theorem dX6_take_205 : decode cX6_take 205 = .ok (.iconst 0, 1) := by decide +kernel
theorem dX6_take_206 : decode cX6_take 206 = .ok (.ireturn, 1) := by decide +kernel
theorem dX6_readText_0 : decode cX6_readText 0 = .ok (.iconst 0, 1) := by decide +kernel
theorem dX6_readText_1 : decode cX6_readText 1 = .ok (.istore_n 1, 1) := by decide +kernel
theorem dX6_readText_2 : decode cX6_readText 2 = .ok (.iload_n 1, 1) := by decide +kernel
theorem dX6_readText_3 : decode cX6_readText 3 = .ok (.aload_n 0, 1) := by decide +kernel
theorem dX6_readText_4 : decode cX6_readText 4 = .ok (.getfield 94, 3) := by decide +kernel
theorem dX6_readText_7 : decode cX6_readText 7 = .ok (.if_icmp .ge 31, 3) := by decide +kernel
theorem dX6_readText_10 : decode cX6_readText 10 = .ok (.iload_n 1, 1) := by decide +kernel
theorem dX6_readText_11 : decode cX6_readText 11 = .ok (.bipush 13, 2) := by decide +kernel
theorem dX6_readText_13 : decode cX6_readText 13 = .ok (.if_icmp .ge 25, 3) := by decide +kernel
theorem dX6_readText_16 : decode cX6_readText 16 = .ok (.aload_n 0, 1) := by decide +kernel
theorem dX6_readText_17 : decode cX6_readText 17 = .ok (.iload_n 1, 1) := by decide +kernel
theorem dX6_readText_18 : decode cX6_readText 18 = .ok (.aload_n 0, 1) := by decide +kernel
theorem dX6_readText_19 : decode cX6_readText 19 = .ok (.getfield 7, 3) := by decide +kernel
theorem dX6_readText_22 : decode cX6_readText 22 = .ok (.iload_n 1, 1) := by decide +kernel
theorem dX6_readText_23 : decode cX6_readText 23 = .ok (.iaload, 1) := by decide +kernel
theorem dX6_readText_24 : decode cX6_readText 24 = .ok (.invokevirtual 111, 3) := by decide +kernel
theorem dX6_readText_27 : decode cX6_readText 27 = .ok (.ifCond .ne 5, 3) := by decide +kernel
theorem dX6_readText_30 : decode cX6_readText 30 = .ok (.iload_n 1, 1) := by decide +kernel
theorem dX6_readText_31 : decode cX6_readText 31 = .ok (.ireturn, 1) := by decide +kernel
theorem dX6_readText_32 : decode cX6_readText 32 = .ok (.iinc 1 1, 3) := by decide +kernel
theorem dX6_readText_35 : decode cX6_readText 35 = .ok (.goto (-33), 3) := by decide +kernel
theorem dX6_readText_38 : decode cX6_readText 38 = .ok (.aload_n 0, 1) := by decide +kernel
theorem dX6_readText_39 : decode cX6_readText 39 = .ok (.getfield 94, 3) := by decide +kernel
theorem dX6_readText_42 : decode cX6_readText 42 = .ok (.bipush 13, 2) := by decide +kernel
theorem dX6_readText_44 : decode cX6_readText 44 = .ok (.if_icmp .ne 8, 3) := by decide +kernel
theorem dX6_readText_47 : decode cX6_readText 47 = .ok (.bipush (-9), 2) := by decide +kernel
theorem dX6_readText_49 : decode cX6_readText 49 = .ok (.goto 21, 3) := by decide +kernel
theorem dX6_readText_52 : decode cX6_readText 52 = .ok (.aload_n 0, 1) := by decide +kernel
theorem dX6_readText_53 : decode cX6_readText 53 = .ok (.getfield 94, 3) := by decide +kernel
theorem dX6_readText_56 : decode cX6_readText 56 = .ok (.bipush 13, 2) := by decide +kernel
theorem dX6_readText_58 : decode cX6_readText 58 = .ok (.if_icmp .ge 10, 3) := by decide +kernel
theorem dX6_readText_61 : decode cX6_readText 61 = .ok (.aload_n 0, 1) := by decide +kernel
theorem dX6_readText_62 : decode cX6_readText 62 = .ok (.getfield 94, 3) := by decide +kernel
theorem dX6_readText_65 : decode cX6_readText 65 = .ok (.goto 5, 3) := by decide +kernel
theorem dX6_readText_68 : decode cX6_readText 68 = .ok (.bipush 13, 2) := by decide +kernel
theorem dX6_readText_70 : decode cX6_readText 70 = .ok (.ireturn, 1) := by decide +kernel
theorem dX6_fault_0 : decode cX6_fault 0 = .ok (.aload_n 0, 1) := by decide +kernel
theorem dX6_fault_1 : decode cX6_fault 1 = .ok (.invokevirtual 114, 3) := by decide +kernel
theorem dX6_fault_4 : decode cX6_fault 4 = .ok (.ireturn, 1) := by decide +kernel
theorem dX6_station_0 : decode cX6_station 0 = .ok (.aload_n 0, 1) := by decide +kernel
theorem dX6_station_1 : decode cX6_station 1 = .ok (.invokevirtual 114, 3) := by decide +kernel
theorem dX6_station_4 : decode cX6_station 4 = .ok (.bipush (-9), 2) := by decide +kernel
theorem dX6_station_6 : decode cX6_station 6 = .ok (.if_icmp .eq 6, 3) := by decide +kernel
theorem dX6_station_9 : decode cX6_station 9 = .ok (.bipush (-3), 2) := by decide +kernel
theorem dX6_station_11 : decode cX6_station 11 = .ok (.ireturn, 1) := by decide +kernel
theorem dX6_station_12 : decode cX6_station 12 = .ok (.aload_n 0, 1) := by decide +kernel
theorem dX6_station_13 : decode cX6_station 13 = .ok (.aload_n 0, 1) := by decide +kernel
theorem dX6_station_14 : decode cX6_station 14 = .ok (.getfield 99, 3) := by decide +kernel
theorem dX6_station_17 : decode cX6_station 17 = .ok (.putfield 53, 3) := by decide +kernel
theorem dX6_station_20 : decode cX6_station 20 = .ok (.iconst 0, 1) := by decide +kernel
theorem dX6_station_21 : decode cX6_station 21 = .ok (.istore_n 1, 1) := by decide +kernel
theorem dX6_station_22 : decode cX6_station 22 = .ok (.iload_n 1, 1) := by decide +kernel
theorem dX6_station_23 : decode cX6_station 23 = .ok (.iconst 4, 1) := by decide +kernel
theorem dX6_station_24 : decode cX6_station 24 = .ok (.if_icmp .ge 21, 3) := by decide +kernel
theorem dX6_station_27 : decode cX6_station 27 = .ok (.aload_n 0, 1) := by decide +kernel
theorem dX6_station_28 : decode cX6_station 28 = .ok (.getfield 13, 3) := by decide +kernel
theorem dX6_station_31 : decode cX6_station 31 = .ok (.iload_n 1, 1) := by decide +kernel
theorem dX6_station_32 : decode cX6_station 32 = .ok (.aload_n 0, 1) := by decide +kernel
theorem dX6_station_33 : decode cX6_station 33 = .ok (.getfield 50, 3) := by decide +kernel
theorem dX6_station_36 : decode cX6_station 36 = .ok (.iload_n 1, 1) := by decide +kernel
theorem dX6_station_37 : decode cX6_station 37 = .ok (.iaload, 1) := by decide +kernel
theorem dX6_station_38 : decode cX6_station 38 = .ok (.iastore, 1) := by decide +kernel
theorem dX6_station_39 : decode cX6_station 39 = .ok (.iinc 1 1, 3) := by decide +kernel
theorem dX6_station_42 : decode cX6_station 42 = .ok (.goto (-20), 3) := by decide +kernel
theorem dX6_station_45 : decode cX6_station 45 = .ok (.aload_n 0, 1) := by decide +kernel
theorem dX6_station_46 : decode cX6_station 46 = .ok (.aload_n 0, 1) := by decide +kernel
theorem dX6_station_47 : decode cX6_station 47 = .ok (.getfield 105, 3) := by decide +kernel
theorem dX6_station_50 : decode cX6_station 50 = .ok (.putfield 82, 3) := by decide +kernel
theorem dX6_station_53 : decode cX6_station 53 = .ok (.aload_n 0, 1) := by decide +kernel
theorem dX6_station_54 : decode cX6_station 54 = .ok (.aload_n 0, 1) := by decide +kernel
theorem dX6_station_55 : decode cX6_station 55 = .ok (.getfield 108, 3) := by decide +kernel
theorem dX6_station_58 : decode cX6_station 58 = .ok (.putfield 57, 3) := by decide +kernel
theorem dX6_station_61 : decode cX6_station 61 = .ok (.aload_n 0, 1) := by decide +kernel
theorem dX6_station_62 : decode cX6_station 62 = .ok (.invokevirtual 60, 3) := by decide +kernel
theorem dX6_station_65 : decode cX6_station 65 = .ok (.aload_n 0, 1) := by decide +kernel
theorem dX6_station_66 : decode cX6_station 66 = .ok (.invokevirtual 63, 3) := by decide +kernel
theorem dX6_station_69 : decode cX6_station 69 = .ok (.aload_n 0, 1) := by decide +kernel
theorem dX6_station_70 : decode cX6_station 70 = .ok (.iconst 0, 1) := by decide +kernel
theorem dX6_station_71 : decode cX6_station 71 = .ok (.putfield 118, 3) := by decide +kernel
theorem dX6_station_74 : decode cX6_station 74 = .ok (.aload_n 0, 1) := by decide +kernel
theorem dX6_station_75 : decode cX6_station 75 = .ok (.getfield 34, 3) := by decide +kernel
theorem dX6_station_78 : decode cX6_station 78 = .ok (.iconst 0, 1) := by decide +kernel
theorem dX6_station_79 : decode cX6_station 79 = .ok (.iconst 0, 1) := by decide +kernel
theorem dX6_station_80 : decode cX6_station 80 = .ok (.bastore, 1) := by decide +kernel
theorem dX6_station_81 : decode cX6_station 81 = .ok (.aload_n 0, 1) := by decide +kernel
theorem dX6_station_82 : decode cX6_station 82 = .ok (.getfield 34, 3) := by decide +kernel
theorem dX6_station_85 : decode cX6_station 85 = .ok (.iconst 1, 1) := by decide +kernel
theorem dX6_station_86 : decode cX6_station 86 = .ok (.iconst 0, 1) := by decide +kernel
theorem dX6_station_87 : decode cX6_station 87 = .ok (.bastore, 1) := by decide +kernel
theorem dX6_station_88 : decode cX6_station 88 = .ok (.aload_n 0, 1) := by decide +kernel
theorem dX6_station_89 : decode cX6_station 89 = .ok (.getfield 53, 3) := by decide +kernel
theorem dX6_station_92 : decode cX6_station 92 = .ok (.ireturn, 1) := by decide +kernel
theorem dX6_noParts_0 : decode cX6_noParts 0 = .ok (.iconst 0, 1) := by decide +kernel
theorem dX6_noParts_1 : decode cX6_noParts 1 = .ok (.istore_n 1, 1) := by decide +kernel
theorem dX6_noParts_2 : decode cX6_noParts 2 = .ok (.iload_n 1, 1) := by decide +kernel
theorem dX6_noParts_3 : decode cX6_noParts 3 = .ok (.iconst 4, 1) := by decide +kernel
theorem dX6_noParts_4 : decode cX6_noParts 4 = .ok (.if_icmp .ge 17, 3) := by decide +kernel
theorem dX6_noParts_7 : decode cX6_noParts 7 = .ok (.aload_n 0, 1) := by decide +kernel
theorem dX6_noParts_8 : decode cX6_noParts 8 = .ok (.bipush 18, 2) := by decide +kernel
theorem dX6_noParts_10 : decode cX6_noParts 10 = .ok (.iload_n 1, 1) := by decide +kernel
theorem dX6_noParts_11 : decode cX6_noParts 11 = .ok (.iadd, 1) := by decide +kernel
theorem dX6_noParts_12 : decode cX6_noParts 12 = .ok (.bipush (-9), 2) := by decide +kernel
theorem dX6_noParts_14 : decode cX6_noParts 14 = .ok (.iastore, 1) := by decide +kernel
theorem dX6_noParts_15 : decode cX6_noParts 15 = .ok (.iinc 1 1, 3) := by decide +kernel
theorem dX6_noParts_18 : decode cX6_noParts 18 = .ok (.goto (-16), 3) := by decide +kernel
theorem dX6_noParts_21 : decode cX6_noParts 21 = .ok (.return_, 1) := by decide +kernel
theorem dX6_quiet_0 : decode cX6_quiet 0 = .ok (.aload_n 0, 1) := by decide +kernel
theorem dX6_quiet_1 : decode cX6_quiet 1 = .ok (.bipush 7, 2) := by decide +kernel
theorem dX6_quiet_3 : decode cX6_quiet 3 = .ok (.iconst 0, 1) := by decide +kernel
theorem dX6_quiet_4 : decode cX6_quiet 4 = .ok (.iastore, 1) := by decide +kernel
theorem dX6_quiet_5 : decode cX6_quiet 5 = .ok (.aload_n 0, 1) := by decide +kernel
theorem dX6_quiet_6 : decode cX6_quiet 6 = .ok (.iconst 2, 1) := by decide +kernel
theorem dX6_quiet_7 : decode cX6_quiet 7 = .ok (.iconst 0, 1) := by decide +kernel
theorem dX6_quiet_8 : decode cX6_quiet 8 = .ok (.iastore, 1) := by decide +kernel
theorem dX6_quiet_9 : decode cX6_quiet 9 = .ok (.return_, 1) := by decide +kernel
theorem dX6_lose_0 : decode cX6_lose 0 = .ok (.aload_n 0, 1) := by decide +kernel
theorem dX6_lose_1 : decode cX6_lose 1 = .ok (.iconst 3, 1) := by decide +kernel
theorem dX6_lose_2 : decode cX6_lose 2 = .ok (.iconst 0, 1) := by decide +kernel
theorem dX6_lose_3 : decode cX6_lose 3 = .ok (.iastore, 1) := by decide +kernel
theorem dX6_lose_4 : decode cX6_lose 4 = .ok (.aload_n 0, 1) := by decide +kernel
theorem dX6_lose_5 : decode cX6_lose 5 = .ok (.bipush 13, 2) := by decide +kernel
theorem dX6_lose_7 : decode cX6_lose 7 = .ok (.dup2, 1) := by decide +kernel
theorem dX6_lose_8 : decode cX6_lose 8 = .ok (.iaload, 1) := by decide +kernel
theorem dX6_lose_9 : decode cX6_lose 9 = .ok (.iconst 1, 1) := by decide +kernel
theorem dX6_lose_10 : decode cX6_lose 10 = .ok (.iadd, 1) := by decide +kernel
theorem dX6_lose_11 : decode cX6_lose 11 = .ok (.iastore, 1) := by decide +kernel
theorem dX6_lose_12 : decode cX6_lose 12 = .ok (.aload_n 0, 1) := by decide +kernel
theorem dX6_lose_13 : decode cX6_lose 13 = .ok (.invokestatic 121, 3) := by decide +kernel
theorem dX6_lose_16 : decode cX6_lose 16 = .ok (.aload_n 0, 1) := by decide +kernel
theorem dX6_lose_17 : decode cX6_lose 17 = .ok (.invokestatic 125, 3) := by decide +kernel
theorem dX6_lose_20 : decode cX6_lose 20 = .ok (.return_, 1) := by decide +kernel
theorem dX6_hearOf_0 : decode cX6_hearOf 0 = .ok (.iload_n 1, 1) := by decide +kernel
theorem dX6_hearOf_1 : decode cX6_hearOf 1 = .ok (.i2l, 1) := by decide +kernel
theorem dX6_hearOf_2 : decode cX6_hearOf 2 = .ok (.lconst 1, 1) := by decide +kernel
theorem dX6_hearOf_3 : decode cX6_hearOf 3 = .ok (.ldc2_w 128, 3) := by decide +kernel
theorem dX6_hearOf_6 : decode cX6_hearOf 6 = .ok (.invokestatic 68, 3) := by decide +kernel
theorem dX6_hearOf_9 : decode cX6_hearOf 9 = .ok (.ifCond .ne 4, 3) := by decide +kernel
theorem dX6_hearOf_12 : decode cX6_hearOf 12 = .ok (.return_, 1) := by decide +kernel
theorem dX6_hearOf_13 : decode cX6_hearOf 13 = .ok (.iconst 0, 1) := by decide +kernel
theorem dX6_hearOf_14 : decode cX6_hearOf 14 = .ok (.istore_n 2, 1) := by decide +kernel
theorem dX6_hearOf_15 : decode cX6_hearOf 15 = .ok (.iload_n 2, 1) := by decide +kernel
theorem dX6_hearOf_16 : decode cX6_hearOf 16 = .ok (.aload_n 0, 1) := by decide +kernel
theorem dX6_hearOf_17 : decode cX6_hearOf 17 = .ok (.bipush 30, 2) := by decide +kernel
theorem dX6_hearOf_19 : decode cX6_hearOf 19 = .ok (.iaload, 1) := by decide +kernel
theorem dX6_hearOf_20 : decode cX6_hearOf 20 = .ok (.if_icmp .ge 19, 3) := by decide +kernel
theorem dX6_hearOf_23 : decode cX6_hearOf 23 = .ok (.aload_n 0, 1) := by decide +kernel
theorem dX6_hearOf_24 : decode cX6_hearOf 24 = .ok (.bipush 31, 2) := by decide +kernel
theorem dX6_hearOf_26 : decode cX6_hearOf 26 = .ok (.iload_n 2, 1) := by decide +kernel
theorem dX6_hearOf_27 : decode cX6_hearOf 27 = .ok (.iadd, 1) := by decide +kernel
theorem dX6_hearOf_28 : decode cX6_hearOf 28 = .ok (.iaload, 1) := by decide +kernel
theorem dX6_hearOf_29 : decode cX6_hearOf 29 = .ok (.iload_n 1, 1) := by decide +kernel
theorem dX6_hearOf_30 : decode cX6_hearOf 30 = .ok (.if_icmp .eq 9, 3) := by decide +kernel
theorem dX6_hearOf_33 : decode cX6_hearOf 33 = .ok (.iinc 2 1, 3) := by decide +kernel
theorem dX6_hearOf_36 : decode cX6_hearOf 36 = .ok (.goto (-21), 3) := by decide +kernel
theorem dX6_hearOf_39 : decode cX6_hearOf 39 = .ok (.iload_n 2, 1) := by decide +kernel
theorem dX6_hearOf_40 : decode cX6_hearOf 40 = .ok (.aload_n 0, 1) := by decide +kernel
theorem dX6_hearOf_41 : decode cX6_hearOf 41 = .ok (.bipush 30, 2) := by decide +kernel
theorem dX6_hearOf_43 : decode cX6_hearOf 43 = .ok (.iaload, 1) := by decide +kernel
theorem dX6_hearOf_44 : decode cX6_hearOf 44 = .ok (.if_icmp .ge 31, 3) := by decide +kernel
theorem dX6_hearOf_47 : decode cX6_hearOf 47 = .ok (.aload_n 0, 1) := by decide +kernel
theorem dX6_hearOf_48 : decode cX6_hearOf 48 = .ok (.bipush 39, 2) := by decide +kernel
theorem dX6_hearOf_50 : decode cX6_hearOf 50 = .ok (.iload_n 2, 1) := by decide +kernel
theorem dX6_hearOf_51 : decode cX6_hearOf 51 = .ok (.iadd, 1) := by decide +kernel
theorem dX6_hearOf_52 : decode cX6_hearOf 52 = .ok (.dup2, 1) := by decide +kernel
theorem dX6_hearOf_53 : decode cX6_hearOf 53 = .ok (.iaload, 1) := by decide +kernel
theorem dX6_hearOf_54 : decode cX6_hearOf 54 = .ok (.aload_n 0, 1) := by decide +kernel
theorem dX6_hearOf_55 : decode cX6_hearOf 55 = .ok (.bipush 39, 2) := by decide +kernel
theorem dX6_hearOf_57 : decode cX6_hearOf 57 = .ok (.iload_n 2, 1) := by decide +kernel
theorem dX6_hearOf_58 : decode cX6_hearOf 58 = .ok (.iadd, 1) := by decide +kernel
theorem dX6_hearOf_59 : decode cX6_hearOf 59 = .ok (.iaload, 1) := by decide +kernel
theorem dX6_hearOf_60 : decode cX6_hearOf 60 = .ok (.bipush 99, 2) := by decide +kernel
theorem dX6_hearOf_62 : decode cX6_hearOf 62 = .ok (.if_icmp .ge 7, 3) := by decide +kernel
theorem dX6_hearOf_65 : decode cX6_hearOf 65 = .ok (.iconst 1, 1) := by decide +kernel
theorem dX6_hearOf_66 : decode cX6_hearOf 66 = .ok (.goto 4, 3) := by decide +kernel
theorem dX6_hearOf_69 : decode cX6_hearOf 69 = .ok (.iconst 0, 1) := by decide +kernel
theorem dX6_hearOf_70 : decode cX6_hearOf 70 = .ok (.iadd, 1) := by decide +kernel
theorem dX6_hearOf_71 : decode cX6_hearOf 71 = .ok (.iastore, 1) := by decide +kernel
theorem dX6_hearOf_72 : decode cX6_hearOf 72 = .ok (.goto 31, 3) := by decide +kernel
theorem dX6_hearOf_75 : decode cX6_hearOf 75 = .ok (.iload_n 2, 1) := by decide +kernel
theorem dX6_hearOf_76 : decode cX6_hearOf 76 = .ok (.bipush 8, 2) := by decide +kernel
theorem dX6_hearOf_78 : decode cX6_hearOf 78 = .ok (.if_icmp .ge 25, 3) := by decide +kernel
theorem dX6_hearOf_81 : decode cX6_hearOf 81 = .ok (.aload_n 0, 1) := by decide +kernel
theorem dX6_hearOf_82 : decode cX6_hearOf 82 = .ok (.bipush 31, 2) := by decide +kernel
theorem dX6_hearOf_84 : decode cX6_hearOf 84 = .ok (.iload_n 2, 1) := by decide +kernel
theorem dX6_hearOf_85 : decode cX6_hearOf 85 = .ok (.iadd, 1) := by decide +kernel
theorem dX6_hearOf_86 : decode cX6_hearOf 86 = .ok (.iload_n 1, 1) := by decide +kernel
theorem dX6_hearOf_87 : decode cX6_hearOf 87 = .ok (.iastore, 1) := by decide +kernel
theorem dX6_hearOf_88 : decode cX6_hearOf 88 = .ok (.aload_n 0, 1) := by decide +kernel
theorem dX6_hearOf_89 : decode cX6_hearOf 89 = .ok (.bipush 39, 2) := by decide +kernel
theorem dX6_hearOf_91 : decode cX6_hearOf 91 = .ok (.iload_n 2, 1) := by decide +kernel
theorem dX6_hearOf_92 : decode cX6_hearOf 92 = .ok (.iadd, 1) := by decide +kernel
theorem dX6_hearOf_93 : decode cX6_hearOf 93 = .ok (.iconst 1, 1) := by decide +kernel
theorem dX6_hearOf_94 : decode cX6_hearOf 94 = .ok (.iastore, 1) := by decide +kernel
theorem dX6_hearOf_95 : decode cX6_hearOf 95 = .ok (.aload_n 0, 1) := by decide +kernel
theorem dX6_hearOf_96 : decode cX6_hearOf 96 = .ok (.bipush 30, 2) := by decide +kernel
theorem dX6_hearOf_98 : decode cX6_hearOf 98 = .ok (.dup2, 1) := by decide +kernel
theorem dX6_hearOf_99 : decode cX6_hearOf 99 = .ok (.iaload, 1) := by decide +kernel
theorem dX6_hearOf_100 : decode cX6_hearOf 100 = .ok (.iconst 1, 1) := by decide +kernel
theorem dX6_hearOf_101 : decode cX6_hearOf 101 = .ok (.iadd, 1) := by decide +kernel
theorem dX6_hearOf_102 : decode cX6_hearOf 102 = .ok (.iastore, 1) := by decide +kernel
theorem dX6_hearOf_103 : decode cX6_hearOf 103 = .ok (.return_, 1) := by decide +kernel
theorem dX6_takeFlag_0 : decode cX6_takeFlag 0 = .ok (.aload_n 0, 1) := by decide +kernel
theorem dX6_takeFlag_1 : decode cX6_takeFlag 1 = .ok (.bipush 17, 2) := by decide +kernel
theorem dX6_takeFlag_3 : decode cX6_takeFlag 3 = .ok (.iaload, 1) := by decide +kernel
theorem dX6_takeFlag_4 : decode cX6_takeFlag 4 = .ok (.iload_n 1, 1) := by decide +kernel
theorem dX6_takeFlag_5 : decode cX6_takeFlag 5 = .ok (.if_icmp .eq 37, 3) := by decide +kernel
theorem dX6_takeFlag_8 : decode cX6_takeFlag 8 = .ok (.aload_n 0, 1) := by decide +kernel
theorem dX6_takeFlag_9 : decode cX6_takeFlag 9 = .ok (.bipush 17, 2) := by decide +kernel
theorem dX6_takeFlag_11 : decode cX6_takeFlag 11 = .ok (.iload_n 1, 1) := by decide +kernel
theorem dX6_takeFlag_12 : decode cX6_takeFlag 12 = .ok (.iastore, 1) := by decide +kernel
theorem dX6_takeFlag_13 : decode cX6_takeFlag 13 = .ok (.iconst 0, 1) := by decide +kernel
theorem dX6_takeFlag_14 : decode cX6_takeFlag 14 = .ok (.istore_n 2, 1) := by decide +kernel
theorem dX6_takeFlag_15 : decode cX6_takeFlag 15 = .ok (.iload_n 2, 1) := by decide +kernel
theorem dX6_takeFlag_16 : decode cX6_takeFlag 16 = .ok (.iconst 4, 1) := by decide +kernel
theorem dX6_takeFlag_17 : decode cX6_takeFlag 17 = .ok (.if_icmp .ge 25, 3) := by decide +kernel
theorem dX6_takeFlag_20 : decode cX6_takeFlag 20 = .ok (.aload_n 0, 1) := by decide +kernel
theorem dX6_takeFlag_21 : decode cX6_takeFlag 21 = .ok (.bipush 22, 2) := by decide +kernel
theorem dX6_takeFlag_23 : decode cX6_takeFlag 23 = .ok (.iload_n 2, 1) := by decide +kernel
theorem dX6_takeFlag_24 : decode cX6_takeFlag 24 = .ok (.iadd, 1) := by decide +kernel
theorem dX6_takeFlag_25 : decode cX6_takeFlag 25 = .ok (.bipush (-9), 2) := by decide +kernel
theorem dX6_takeFlag_27 : decode cX6_takeFlag 27 = .ok (.iastore, 1) := by decide +kernel
theorem dX6_takeFlag_28 : decode cX6_takeFlag 28 = .ok (.aload_n 0, 1) := by decide +kernel
theorem dX6_takeFlag_29 : decode cX6_takeFlag 29 = .ok (.bipush 26, 2) := by decide +kernel
theorem dX6_takeFlag_31 : decode cX6_takeFlag 31 = .ok (.iload_n 2, 1) := by decide +kernel
theorem dX6_takeFlag_32 : decode cX6_takeFlag 32 = .ok (.iadd, 1) := by decide +kernel
theorem dX6_takeFlag_33 : decode cX6_takeFlag 33 = .ok (.bipush (-9), 2) := by decide +kernel
theorem dX6_takeFlag_35 : decode cX6_takeFlag 35 = .ok (.iastore, 1) := by decide +kernel
theorem dX6_takeFlag_36 : decode cX6_takeFlag 36 = .ok (.iinc 2 1, 3) := by decide +kernel
theorem dX6_takeFlag_39 : decode cX6_takeFlag 39 = .ok (.goto (-24), 3) := by decide +kernel
theorem dX6_takeFlag_42 : decode cX6_takeFlag 42 = .ok (.return_, 1) := by decide +kernel
theorem dX6_takePair_0 : decode cX6_takePair 0 = .ok (.aload_n 0, 1) := by decide +kernel
theorem dX6_takePair_1 : decode cX6_takePair 1 = .ok (.bipush 26, 2) := by decide +kernel
theorem dX6_takePair_3 : decode cX6_takePair 3 = .ok (.iload_n 1, 1) := by decide +kernel
theorem dX6_takePair_4 : decode cX6_takePair 4 = .ok (.iadd, 1) := by decide +kernel
theorem dX6_takePair_5 : decode cX6_takePair 5 = .ok (.iaload, 1) := by decide +kernel
theorem dX6_takePair_6 : decode cX6_takePair 6 = .ok (.iload_n 2, 1) := by decide +kernel
theorem dX6_takePair_7 : decode cX6_takePair 7 = .ok (.if_icmp .ne 10, 3) := by decide +kernel
theorem dX6_takePair_10 : decode cX6_takePair 10 = .ok (.aload_n 0, 1) := by decide +kernel
theorem dX6_takePair_11 : decode cX6_takePair 11 = .ok (.bipush 22, 2) := by decide +kernel
theorem dX6_takePair_13 : decode cX6_takePair 13 = .ok (.iload_n 1, 1) := by decide +kernel
theorem dX6_takePair_14 : decode cX6_takePair 14 = .ok (.iadd, 1) := by decide +kernel
theorem dX6_takePair_15 : decode cX6_takePair 15 = .ok (.iload_n 2, 1) := by decide +kernel
theorem dX6_takePair_16 : decode cX6_takePair 16 = .ok (.iastore, 1) := by decide +kernel
theorem dX6_takePair_17 : decode cX6_takePair 17 = .ok (.aload_n 0, 1) := by decide +kernel
theorem dX6_takePair_18 : decode cX6_takePair 18 = .ok (.bipush 26, 2) := by decide +kernel
theorem dX6_takePair_20 : decode cX6_takePair 20 = .ok (.iload_n 1, 1) := by decide +kernel
theorem dX6_takePair_21 : decode cX6_takePair 21 = .ok (.iadd, 1) := by decide +kernel
theorem dX6_takePair_22 : decode cX6_takePair 22 = .ok (.iload_n 2, 1) := by decide +kernel
theorem dX6_takePair_23 : decode cX6_takePair 23 = .ok (.iastore, 1) := by decide +kernel
theorem dX6_takePair_24 : decode cX6_takePair 24 = .ok (.return_, 1) := by decide +kernel
theorem dX6_lookAt_0 : decode cX6_lookAt 0 = .ok (.aload_n 0, 1) := by decide +kernel
theorem dX6_lookAt_1 : decode cX6_lookAt 1 = .ok (.bipush 18, 2) := by decide +kernel
theorem dX6_lookAt_3 : decode cX6_lookAt 3 = .ok (.iaload, 1) := by decide +kernel
theorem dX6_lookAt_4 : decode cX6_lookAt 4 = .ok (.istore_n 1, 1) := by decide +kernel
theorem dX6_lookAt_5 : decode cX6_lookAt 5 = .ok (.iload_n 1, 1) := by decide +kernel
theorem dX6_lookAt_6 : decode cX6_lookAt 6 = .ok (.bipush (-9), 2) := by decide +kernel
theorem dX6_lookAt_8 : decode cX6_lookAt 8 = .ok (.if_icmp .eq 28, 3) := by decide +kernel
theorem dX6_lookAt_11 : decode cX6_lookAt 11 = .ok (.aload_n 0, 1) := by decide +kernel
theorem dX6_lookAt_12 : decode cX6_lookAt 12 = .ok (.bipush 14, 2) := by decide +kernel
theorem dX6_lookAt_14 : decode cX6_lookAt 14 = .ok (.aload_n 0, 1) := by decide +kernel
theorem dX6_lookAt_15 : decode cX6_lookAt 15 = .ok (.bipush 15, 2) := by decide +kernel
theorem dX6_lookAt_17 : decode cX6_lookAt 17 = .ok (.iaload, 1) := by decide +kernel
theorem dX6_lookAt_18 : decode cX6_lookAt 18 = .ok (.iload_n 1, 1) := by decide +kernel
theorem dX6_lookAt_19 : decode cX6_lookAt 19 = .ok (.if_icmp .ne 7, 3) := by decide +kernel
theorem dX6_lookAt_22 : decode cX6_lookAt 22 = .ok (.iload_n 1, 1) := by decide +kernel
theorem dX6_lookAt_23 : decode cX6_lookAt 23 = .ok (.goto 7, 3) := by decide +kernel
theorem dX6_lookAt_26 : decode cX6_lookAt 26 = .ok (.aload_n 0, 1) := by decide +kernel
theorem dX6_lookAt_27 : decode cX6_lookAt 27 = .ok (.bipush 14, 2) := by decide +kernel
theorem dX6_lookAt_29 : decode cX6_lookAt 29 = .ok (.iaload, 1) := by decide +kernel
theorem dX6_lookAt_30 : decode cX6_lookAt 30 = .ok (.iastore, 1) := by decide +kernel
theorem dX6_lookAt_31 : decode cX6_lookAt 31 = .ok (.aload_n 0, 1) := by decide +kernel
theorem dX6_lookAt_32 : decode cX6_lookAt 32 = .ok (.bipush 15, 2) := by decide +kernel
theorem dX6_lookAt_34 : decode cX6_lookAt 34 = .ok (.iload_n 1, 1) := by decide +kernel
theorem dX6_lookAt_35 : decode cX6_lookAt 35 = .ok (.iastore, 1) := by decide +kernel
theorem dX6_lookAt_36 : decode cX6_lookAt 36 = .ok (.aload_n 0, 1) := by decide +kernel
theorem dX6_lookAt_37 : decode cX6_lookAt 37 = .ok (.bipush 19, 2) := by decide +kernel
theorem dX6_lookAt_39 : decode cX6_lookAt 39 = .ok (.iaload, 1) := by decide +kernel
theorem dX6_lookAt_40 : decode cX6_lookAt 40 = .ok (.istore_n 2, 1) := by decide +kernel
theorem dX6_lookAt_41 : decode cX6_lookAt 41 = .ok (.iload_n 2, 1) := by decide +kernel
theorem dX6_lookAt_42 : decode cX6_lookAt 42 = .ok (.bipush (-9), 2) := by decide +kernel
theorem dX6_lookAt_44 : decode cX6_lookAt 44 = .ok (.if_icmp .ne 4, 3) := by decide +kernel
theorem dX6_lookAt_47 : decode cX6_lookAt 47 = .ok (.return_, 1) := by decide +kernel
theorem dX6_lookAt_48 : decode cX6_lookAt 48 = .ok (.aload_n 0, 1) := by decide +kernel
theorem dX6_lookAt_49 : decode cX6_lookAt 49 = .ok (.bipush 20, 2) := by decide +kernel
theorem dX6_lookAt_51 : decode cX6_lookAt 51 = .ok (.iaload, 1) := by decide +kernel
theorem dX6_lookAt_52 : decode cX6_lookAt 52 = .ok (.istore_n 3, 1) := by decide +kernel
theorem dX6_lookAt_53 : decode cX6_lookAt 53 = .ok (.aload_n 0, 1) := by decide +kernel
theorem dX6_lookAt_54 : decode cX6_lookAt 54 = .ok (.bipush 21, 2) := by decide +kernel
theorem dX6_lookAt_56 : decode cX6_lookAt 56 = .ok (.iaload, 1) := by decide +kernel
theorem dX6_lookAt_57 : decode cX6_lookAt 57 = .ok (.istore 4, 2) := by decide +kernel
theorem dX6_lookAt_59 : decode cX6_lookAt 59 = .ok (.iload_n 3, 1) := by decide +kernel
theorem dX6_lookAt_60 : decode cX6_lookAt 60 = .ok (.bipush (-9), 2) := by decide +kernel
theorem dX6_lookAt_62 : decode cX6_lookAt 62 = .ok (.if_icmp .eq 14, 3) := by decide +kernel
theorem dX6_lookAt_65 : decode cX6_lookAt 65 = .ok (.iload 4, 2) := by decide +kernel
theorem dX6_lookAt_67 : decode cX6_lookAt 67 = .ok (.bipush (-9), 2) := by decide +kernel
theorem dX6_lookAt_69 : decode cX6_lookAt 69 = .ok (.if_icmp .eq 7, 3) := by decide +kernel
theorem dX6_lookAt_72 : decode cX6_lookAt 72 = .ok (.iconst 1, 1) := by decide +kernel
theorem dX6_lookAt_73 : decode cX6_lookAt 73 = .ok (.goto 4, 3) := by decide +kernel
theorem dX6_lookAt_76 : decode cX6_lookAt 76 = .ok (.iconst 0, 1) := by decide +kernel
theorem dX6_lookAt_77 : decode cX6_lookAt 77 = .ok (.istore 5, 2) := by decide +kernel
theorem dX6_lookAt_79 : decode cX6_lookAt 79 = .ok (.iload_n 2, 1) := by decide +kernel
theorem dX6_lookAt_80 : decode cX6_lookAt 80 = .ok (.bipush 64, 2) := by decide +kernel
theorem dX6_lookAt_82 : decode cX6_lookAt 82 = .ok (.idiv, 1) := by decide +kernel
theorem dX6_lookAt_83 : decode cX6_lookAt 83 = .ok (.tableswitch 94 0 2 #[25, 48, 80], 25) := by decide +kernel
theorem dX6_lookAt_108 : decode cX6_lookAt 108 = .ok (.iload 5, 2) := by decide +kernel
theorem dX6_lookAt_110 : decode cX6_lookAt 110 = .ok (.ifCond .eq 74, 3) := by decide +kernel
theorem dX6_lookAt_113 : decode cX6_lookAt 113 = .ok (.aload_n 0, 1) := by decide +kernel
theorem dX6_lookAt_114 : decode cX6_lookAt 114 = .ok (.iload_n 2, 1) := by decide +kernel
theorem dX6_lookAt_115 : decode cX6_lookAt 115 = .ok (.iconst 4, 1) := by decide +kernel
theorem dX6_lookAt_116 : decode cX6_lookAt 116 = .ok (.irem, 1) := by decide +kernel
theorem dX6_lookAt_117 : decode cX6_lookAt 117 = .ok (.sipush 256, 3) := by decide +kernel
theorem dX6_lookAt_120 : decode cX6_lookAt 120 = .ok (.iload_n 3, 1) := by decide +kernel
theorem dX6_lookAt_121 : decode cX6_lookAt 121 = .ok (.imul, 1) := by decide +kernel
theorem dX6_lookAt_122 : decode cX6_lookAt 122 = .ok (.iload 4, 2) := by decide +kernel
theorem dX6_lookAt_124 : decode cX6_lookAt 124 = .ok (.iadd, 1) := by decide +kernel
theorem dX6_lookAt_125 : decode cX6_lookAt 125 = .ok (.invokestatic 130, 3) := by decide +kernel
end
section
theorem dX6_lookAt_128 : decode cX6_lookAt 128 = .ok (.goto 56, 3) := by decide +kernel
theorem dX6_lookAt_131 : decode cX6_lookAt 131 = .ok (.iload 5, 2) := by decide +kernel
theorem dX6_lookAt_133 : decode cX6_lookAt 133 = .ok (.ifCond .eq 51, 3) := by decide +kernel
theorem dX6_lookAt_136 : decode cX6_lookAt 136 = .ok (.iload_n 3, 1) := by decide +kernel
theorem dX6_lookAt_137 : decode cX6_lookAt 137 = .ok (.bipush 24, 2) := by decide +kernel
theorem dX6_lookAt_139 : decode cX6_lookAt 139 = .ok (.if_icmp .ge 45, 3) := by decide +kernel
theorem dX6_lookAt_142 : decode cX6_lookAt 142 = .ok (.iload 4, 2) := by decide +kernel
theorem dX6_lookAt_144 : decode cX6_lookAt 144 = .ok (.bipush 60, 2) := by decide +kernel
theorem dX6_lookAt_146 : decode cX6_lookAt 146 = .ok (.if_icmp .ge 38, 3) := by decide +kernel
theorem dX6_lookAt_149 : decode cX6_lookAt 149 = .ok (.aload_n 0, 1) := by decide +kernel
theorem dX6_lookAt_150 : decode cX6_lookAt 150 = .ok (.bipush 16, 2) := by decide +kernel
theorem dX6_lookAt_152 : decode cX6_lookAt 152 = .ok (.bipush 60, 2) := by decide +kernel
theorem dX6_lookAt_154 : decode cX6_lookAt 154 = .ok (.iload_n 3, 1) := by decide +kernel
theorem dX6_lookAt_155 : decode cX6_lookAt 155 = .ok (.imul, 1) := by decide +kernel
theorem dX6_lookAt_156 : decode cX6_lookAt 156 = .ok (.iload 4, 2) := by decide +kernel
theorem dX6_lookAt_158 : decode cX6_lookAt 158 = .ok (.iadd, 1) := by decide +kernel
theorem dX6_lookAt_159 : decode cX6_lookAt 159 = .ok (.iastore, 1) := by decide +kernel
theorem dX6_lookAt_160 : decode cX6_lookAt 160 = .ok (.goto 24, 3) := by decide +kernel
theorem dX6_lookAt_163 : decode cX6_lookAt 163 = .ok (.aload_n 0, 1) := by decide +kernel
theorem dX6_lookAt_164 : decode cX6_lookAt 164 = .ok (.iload_n 3, 1) := by decide +kernel
theorem dX6_lookAt_165 : decode cX6_lookAt 165 = .ok (.invokestatic 134, 3) := by decide +kernel
theorem dX6_lookAt_168 : decode cX6_lookAt 168 = .ok (.aload_n 0, 1) := by decide +kernel
theorem dX6_lookAt_169 : decode cX6_lookAt 169 = .ok (.iload 4, 2) := by decide +kernel
theorem dX6_lookAt_171 : decode cX6_lookAt 171 = .ok (.invokestatic 134, 3) := by decide +kernel
theorem dX6_lookAt_174 : decode cX6_lookAt 174 = .ok (.goto 10, 3) := by decide +kernel
theorem dX6_lookAt_177 : decode cX6_lookAt 177 = .ok (.aload_n 0, 1) := by decide +kernel
theorem dX6_lookAt_178 : decode cX6_lookAt 178 = .ok (.iload_n 2, 1) := by decide +kernel
theorem dX6_lookAt_179 : decode cX6_lookAt 179 = .ok (.iconst 2, 1) := by decide +kernel
theorem dX6_lookAt_180 : decode cX6_lookAt 180 = .ok (.irem, 1) := by decide +kernel
theorem dX6_lookAt_181 : decode cX6_lookAt 181 = .ok (.invokestatic 138, 3) := by decide +kernel
theorem dX6_lookAt_184 : decode cX6_lookAt 184 = .ok (.return_, 1) := by decide +kernel
theorem dX6_seek_0 : decode cX6_seek 0 = .ok (.aload_n 0, 1) := by decide +kernel
theorem dX6_seek_1 : decode cX6_seek 1 = .ok (.aload_n 1, 1) := by decide +kernel
theorem dX6_seek_2 : decode cX6_seek 2 = .ok (.iconst 1, 1) := by decide +kernel
theorem dX6_seek_3 : decode cX6_seek 3 = .ok (.iaload, 1) := by decide +kernel
theorem dX6_seek_4 : decode cX6_seek 4 = .ok (.invokevirtual 89, 3) := by decide +kernel
theorem dX6_seek_7 : decode cX6_seek 7 = .ok (.istore_n 2, 1) := by decide +kernel
theorem dX6_seek_8 : decode cX6_seek 8 = .ok (.iconst 0, 1) := by decide +kernel
theorem dX6_seek_9 : decode cX6_seek 9 = .ok (.istore_n 3, 1) := by decide +kernel
theorem dX6_seek_10 : decode cX6_seek 10 = .ok (.iload_n 3, 1) := by decide +kernel
theorem dX6_seek_11 : decode cX6_seek 11 = .ok (.iconst 4, 1) := by decide +kernel
theorem dX6_seek_12 : decode cX6_seek 12 = .ok (.if_icmp .ge 19, 3) := by decide +kernel
theorem dX6_seek_15 : decode cX6_seek 15 = .ok (.aload_n 0, 1) := by decide +kernel
theorem dX6_seek_16 : decode cX6_seek 16 = .ok (.getfield 13, 3) := by decide +kernel
theorem dX6_seek_19 : decode cX6_seek 19 = .ok (.iload_n 3, 1) := by decide +kernel
theorem dX6_seek_20 : decode cX6_seek 20 = .ok (.iaload, 1) := by decide +kernel
theorem dX6_seek_21 : decode cX6_seek 21 = .ok (.iload_n 2, 1) := by decide +kernel
theorem dX6_seek_22 : decode cX6_seek 22 = .ok (.if_icmp .eq 9, 3) := by decide +kernel
theorem dX6_seek_25 : decode cX6_seek 25 = .ok (.iinc 3 1, 3) := by decide +kernel
theorem dX6_seek_28 : decode cX6_seek 28 = .ok (.goto (-18), 3) := by decide +kernel
theorem dX6_seek_31 : decode cX6_seek 31 = .ok (.aload_n 1, 1) := by decide +kernel
theorem dX6_seek_32 : decode cX6_seek 32 = .ok (.iconst 2, 1) := by decide +kernel
theorem dX6_seek_33 : decode cX6_seek 33 = .ok (.iaload, 1) := by decide +kernel
theorem dX6_seek_34 : decode cX6_seek 34 = .ok (.bipush 14, 2) := by decide +kernel
theorem dX6_seek_36 : decode cX6_seek 36 = .ok (.if_icmp .lt 8, 3) := by decide +kernel
theorem dX6_seek_39 : decode cX6_seek 39 = .ok (.iload_n 3, 1) := by decide +kernel
theorem dX6_seek_40 : decode cX6_seek 40 = .ok (.iconst 4, 1) := by decide +kernel
theorem dX6_seek_41 : decode cX6_seek 41 = .ok (.if_icmp .ne 4, 3) := by decide +kernel
theorem dX6_seek_44 : decode cX6_seek 44 = .ok (.return_, 1) := by decide +kernel
theorem dX6_seek_45 : decode cX6_seek 45 = .ok (.aload_n 1, 1) := by decide +kernel
theorem dX6_seek_46 : decode cX6_seek 46 = .ok (.iconst 0, 1) := by decide +kernel
theorem dX6_seek_47 : decode cX6_seek 47 = .ok (.iaload, 1) := by decide +kernel
theorem dX6_seek_48 : decode cX6_seek 48 = .ok (.aload_n 1, 1) := by decide +kernel
theorem dX6_seek_49 : decode cX6_seek 49 = .ok (.bipush 8, 2) := by decide +kernel
theorem dX6_seek_51 : decode cX6_seek 51 = .ok (.iaload, 1) := by decide +kernel
theorem dX6_seek_52 : decode cX6_seek 52 = .ok (.isub, 1) := by decide +kernel
theorem dX6_seek_53 : decode cX6_seek 53 = .ok (.istore 4, 2) := by decide +kernel
theorem dX6_seek_55 : decode cX6_seek 55 = .ok (.aload_n 1, 1) := by decide +kernel
theorem dX6_seek_56 : decode cX6_seek 56 = .ok (.bipush 7, 2) := by decide +kernel
theorem dX6_seek_58 : decode cX6_seek 58 = .ok (.iaload, 1) := by decide +kernel
theorem dX6_seek_59 : decode cX6_seek 59 = .ok (.iconst 1, 1) := by decide +kernel
theorem dX6_seek_60 : decode cX6_seek 60 = .ok (.if_icmp .ne 47, 3) := by decide +kernel
theorem dX6_seek_63 : decode cX6_seek 63 = .ok (.iload 4, 2) := by decide +kernel
theorem dX6_seek_65 : decode cX6_seek 65 = .ok (.bipush 14, 2) := by decide +kernel
theorem dX6_seek_67 : decode cX6_seek 67 = .ok (.irem, 1) := by decide +kernel
theorem dX6_seek_68 : decode cX6_seek 68 = .ok (.ifCond .ne 39, 3) := by decide +kernel
theorem dX6_seek_71 : decode cX6_seek 71 = .ok (.iload 4, 2) := by decide +kernel
theorem dX6_seek_73 : decode cX6_seek 73 = .ok (.bipush 14, 2) := by decide +kernel
theorem dX6_seek_75 : decode cX6_seek 75 = .ok (.idiv, 1) := by decide +kernel
theorem dX6_seek_76 : decode cX6_seek 76 = .ok (.i2l, 1) := by decide +kernel
theorem dX6_seek_77 : decode cX6_seek 77 = .ok (.lconst 1, 1) := by decide +kernel
theorem dX6_seek_78 : decode cX6_seek 78 = .ok (.ldc2_w 141, 3) := by decide +kernel
theorem dX6_seek_81 : decode cX6_seek 81 = .ok (.invokestatic 68, 3) := by decide +kernel
theorem dX6_seek_84 : decode cX6_seek 84 = .ok (.ifCond .eq 23, 3) := by decide +kernel
theorem dX6_seek_87 : decode cX6_seek 87 = .ok (.iload_n 3, 1) := by decide +kernel
theorem dX6_seek_88 : decode cX6_seek 88 = .ok (.aload_n 1, 1) := by decide +kernel
theorem dX6_seek_89 : decode cX6_seek 89 = .ok (.bipush 9, 2) := by decide +kernel
theorem dX6_seek_91 : decode cX6_seek 91 = .ok (.iaload, 1) := by decide +kernel
theorem dX6_seek_92 : decode cX6_seek 92 = .ok (.iload 4, 2) := by decide +kernel
theorem dX6_seek_94 : decode cX6_seek 94 = .ok (.bipush 14, 2) := by decide +kernel
theorem dX6_seek_96 : decode cX6_seek 96 = .ok (.idiv, 1) := by decide +kernel
theorem dX6_seek_97 : decode cX6_seek 97 = .ok (.iadd, 1) := by decide +kernel
theorem dX6_seek_98 : decode cX6_seek 98 = .ok (.iconst 4, 1) := by decide +kernel
theorem dX6_seek_99 : decode cX6_seek 99 = .ok (.irem, 1) := by decide +kernel
theorem dX6_seek_100 : decode cX6_seek 100 = .ok (.if_icmp .ne 7, 3) := by decide +kernel
theorem dX6_seek_103 : decode cX6_seek 103 = .ok (.iconst 1, 1) := by decide +kernel
theorem dX6_seek_104 : decode cX6_seek 104 = .ok (.goto 4, 3) := by decide +kernel
theorem dX6_seek_107 : decode cX6_seek 107 = .ok (.iconst 0, 1) := by decide +kernel
theorem dX6_seek_108 : decode cX6_seek 108 = .ok (.istore 5, 2) := by decide +kernel
theorem dX6_seek_110 : decode cX6_seek 110 = .ok (.iload 5, 2) := by decide +kernel
theorem dX6_seek_112 : decode cX6_seek 112 = .ok (.ifCond .ne 21, 3) := by decide +kernel
theorem dX6_seek_115 : decode cX6_seek 115 = .ok (.aload_n 1, 1) := by decide +kernel
theorem dX6_seek_116 : decode cX6_seek 116 = .ok (.bipush 7, 2) := by decide +kernel
theorem dX6_seek_118 : decode cX6_seek 118 = .ok (.iconst 1, 1) := by decide +kernel
theorem dX6_seek_119 : decode cX6_seek 119 = .ok (.iastore, 1) := by decide +kernel
theorem dX6_seek_120 : decode cX6_seek 120 = .ok (.aload_n 1, 1) := by decide +kernel
theorem dX6_seek_121 : decode cX6_seek 121 = .ok (.bipush 8, 2) := by decide +kernel
theorem dX6_seek_123 : decode cX6_seek 123 = .ok (.aload_n 1, 1) := by decide +kernel
theorem dX6_seek_124 : decode cX6_seek 124 = .ok (.iconst 0, 1) := by decide +kernel
theorem dX6_seek_125 : decode cX6_seek 125 = .ok (.iaload, 1) := by decide +kernel
theorem dX6_seek_126 : decode cX6_seek 126 = .ok (.iastore, 1) := by decide +kernel
theorem dX6_seek_127 : decode cX6_seek 127 = .ok (.aload_n 1, 1) := by decide +kernel
theorem dX6_seek_128 : decode cX6_seek 128 = .ok (.bipush 9, 2) := by decide +kernel
theorem dX6_seek_130 : decode cX6_seek 130 = .ok (.iload_n 3, 1) := by decide +kernel
theorem dX6_seek_131 : decode cX6_seek 131 = .ok (.iastore, 1) := by decide +kernel
theorem dX6_seek_132 : decode cX6_seek 132 = .ok (.return_, 1) := by decide +kernel
theorem dX6_seek_133 : decode cX6_seek 133 = .ok (.aload_n 1, 1) := by decide +kernel
theorem dX6_seek_134 : decode cX6_seek 134 = .ok (.iconst 3, 1) := by decide +kernel
theorem dX6_seek_135 : decode cX6_seek 135 = .ok (.iconst 1, 1) := by decide +kernel
theorem dX6_seek_136 : decode cX6_seek 136 = .ok (.iastore, 1) := by decide +kernel
theorem dX6_seek_137 : decode cX6_seek 137 = .ok (.aload_n 1, 1) := by decide +kernel
theorem dX6_seek_138 : decode cX6_seek 138 = .ok (.iconst 4, 1) := by decide +kernel
theorem dX6_seek_139 : decode cX6_seek 139 = .ok (.iload_n 3, 1) := by decide +kernel
theorem dX6_seek_140 : decode cX6_seek 140 = .ok (.iconst 1, 1) := by decide +kernel
theorem dX6_seek_141 : decode cX6_seek 141 = .ok (.iadd, 1) := by decide +kernel
theorem dX6_seek_142 : decode cX6_seek 142 = .ok (.iconst 4, 1) := by decide +kernel
theorem dX6_seek_143 : decode cX6_seek 143 = .ok (.irem, 1) := by decide +kernel
theorem dX6_seek_144 : decode cX6_seek 144 = .ok (.iastore, 1) := by decide +kernel
theorem dX6_seek_145 : decode cX6_seek 145 = .ok (.aload_n 1, 1) := by decide +kernel
theorem dX6_seek_146 : decode cX6_seek 146 = .ok (.iconst 5, 1) := by decide +kernel
theorem dX6_seek_147 : decode cX6_seek 147 = .ok (.iconst 0, 1) := by decide +kernel
theorem dX6_seek_148 : decode cX6_seek 148 = .ok (.iastore, 1) := by decide +kernel
theorem dX6_seek_149 : decode cX6_seek 149 = .ok (.aload_n 1, 1) := by decide +kernel
theorem dX6_seek_150 : decode cX6_seek 150 = .ok (.bipush 6, 2) := by decide +kernel
theorem dX6_seek_152 : decode cX6_seek 152 = .ok (.iconst 0, 1) := by decide +kernel
theorem dX6_seek_153 : decode cX6_seek 153 = .ok (.iastore, 1) := by decide +kernel
theorem dX6_seek_154 : decode cX6_seek 154 = .ok (.aload_n 1, 1) := by decide +kernel
theorem dX6_seek_155 : decode cX6_seek 155 = .ok (.invokestatic 125, 3) := by decide +kernel
theorem dX6_seek_158 : decode cX6_seek 158 = .ok (.aload_n 1, 1) := by decide +kernel
theorem dX6_seek_159 : decode cX6_seek 159 = .ok (.bipush 10, 2) := by decide +kernel
theorem dX6_seek_161 : decode cX6_seek 161 = .ok (.dup2, 1) := by decide +kernel
theorem dX6_seek_162 : decode cX6_seek 162 = .ok (.iaload, 1) := by decide +kernel
theorem dX6_seek_163 : decode cX6_seek 163 = .ok (.iconst 1, 1) := by decide +kernel
theorem dX6_seek_164 : decode cX6_seek 164 = .ok (.iadd, 1) := by decide +kernel
theorem dX6_seek_165 : decode cX6_seek 165 = .ok (.iastore, 1) := by decide +kernel
theorem dX6_seek_166 : decode cX6_seek 166 = .ok (.aload_n 1, 1) := by decide +kernel
theorem dX6_seek_167 : decode cX6_seek 167 = .ok (.bipush 18, 2) := by decide +kernel
theorem dX6_seek_169 : decode cX6_seek 169 = .ok (.iload_n 3, 1) := by decide +kernel
theorem dX6_seek_170 : decode cX6_seek 170 = .ok (.iadd, 1) := by decide +kernel
theorem dX6_seek_171 : decode cX6_seek 171 = .ok (.aload_n 1, 1) := by decide +kernel
theorem dX6_seek_172 : decode cX6_seek 172 = .ok (.iconst 1, 1) := by decide +kernel
theorem dX6_seek_173 : decode cX6_seek 173 = .ok (.iaload, 1) := by decide +kernel
theorem dX6_seek_174 : decode cX6_seek 174 = .ok (.bipush 64, 2) := by decide +kernel
theorem dX6_seek_176 : decode cX6_seek 176 = .ok (.idiv, 1) := by decide +kernel
theorem dX6_seek_177 : decode cX6_seek 177 = .ok (.iastore, 1) := by decide +kernel
theorem dX6_seek_178 : decode cX6_seek 178 = .ok (.iload_n 3, 1) := by decide +kernel
theorem dX6_seek_179 : decode cX6_seek 179 = .ok (.iconst 3, 1) := by decide +kernel
theorem dX6_seek_180 : decode cX6_seek 180 = .ok (.if_icmp .ne 7, 3) := by decide +kernel
theorem dX6_seek_183 : decode cX6_seek 183 = .ok (.aload_n 1, 1) := by decide +kernel
theorem dX6_seek_184 : decode cX6_seek 184 = .ok (.invokestatic 143, 3) := by decide +kernel
theorem dX6_seek_187 : decode cX6_seek 187 = .ok (.return_, 1) := by decide +kernel
theorem dX6_block_0 : decode cX6_block 0 = .ok (.aload_n 1, 1) := by decide +kernel
theorem dX6_block_1 : decode cX6_block 1 = .ok (.iconst 4, 1) := by decide +kernel
theorem dX6_block_2 : decode cX6_block 2 = .ok (.iaload, 1) := by decide +kernel
theorem dX6_block_3 : decode cX6_block 3 = .ok (.istore_n 2, 1) := by decide +kernel
theorem dX6_block_4 : decode cX6_block 4 = .ok (.aload_n 0, 1) := by decide +kernel
theorem dX6_block_5 : decode cX6_block 5 = .ok (.iload_n 2, 1) := by decide +kernel
theorem dX6_block_6 : decode cX6_block 6 = .ok (.aload_n 1, 1) := by decide +kernel
theorem dX6_block_7 : decode cX6_block 7 = .ok (.iconst 1, 1) := by decide +kernel
theorem dX6_block_8 : decode cX6_block 8 = .ok (.iaload, 1) := by decide +kernel
theorem dX6_block_9 : decode cX6_block 9 = .ok (.invokevirtual 146, 3) := by decide +kernel
theorem dX6_block_12 : decode cX6_block 12 = .ok (.istore_n 3, 1) := by decide +kernel
theorem dX6_block_13 : decode cX6_block 13 = .ok (.iload_n 2, 1) := by decide +kernel
theorem dX6_block_14 : decode cX6_block 14 = .ok (.ifCond .ne 7, 3) := by decide +kernel
theorem dX6_block_17 : decode cX6_block 17 = .ok (.aload_n 1, 1) := by decide +kernel
theorem dX6_block_18 : decode cX6_block 18 = .ok (.invokestatic 125, 3) := by decide +kernel
theorem dX6_block_21 : decode cX6_block 21 = .ok (.aload_n 0, 1) := by decide +kernel
theorem dX6_block_22 : decode cX6_block 22 = .ok (.iload_n 3, 1) := by decide +kernel
theorem dX6_block_23 : decode cX6_block 23 = .ok (.invokevirtual 150, 3) := by decide +kernel
theorem dX6_block_26 : decode cX6_block 26 = .ok (.istore 4, 2) := by decide +kernel
theorem dX6_block_28 : decode cX6_block 28 = .ok (.iload_n 3, 1) := by decide +kernel
theorem dX6_block_29 : decode cX6_block 29 = .ok (.ifCond .ne 31, 3) := by decide +kernel
theorem dX6_block_32 : decode cX6_block 32 = .ok (.aload_n 1, 1) := by decide +kernel
theorem dX6_block_33 : decode cX6_block 33 = .ok (.bipush 10, 2) := by decide +kernel
theorem dX6_block_35 : decode cX6_block 35 = .ok (.dup2, 1) := by decide +kernel
theorem dX6_block_36 : decode cX6_block 36 = .ok (.iaload, 1) := by decide +kernel
theorem dX6_block_37 : decode cX6_block 37 = .ok (.iconst 1, 1) := by decide +kernel
theorem dX6_block_38 : decode cX6_block 38 = .ok (.iadd, 1) := by decide +kernel
theorem dX6_block_39 : decode cX6_block 39 = .ok (.iastore, 1) := by decide +kernel
theorem dX6_block_40 : decode cX6_block 40 = .ok (.aload_n 1, 1) := by decide +kernel
theorem dX6_block_41 : decode cX6_block 41 = .ok (.bipush 6, 2) := by decide +kernel
theorem dX6_block_43 : decode cX6_block 43 = .ok (.iconst 0, 1) := by decide +kernel
theorem dX6_block_44 : decode cX6_block 44 = .ok (.iastore, 1) := by decide +kernel
theorem dX6_block_45 : decode cX6_block 45 = .ok (.aload_n 1, 1) := by decide +kernel
theorem dX6_block_46 : decode cX6_block 46 = .ok (.bipush 18, 2) := by decide +kernel
theorem dX6_block_48 : decode cX6_block 48 = .ok (.iload_n 2, 1) := by decide +kernel
theorem dX6_block_49 : decode cX6_block 49 = .ok (.iadd, 1) := by decide +kernel
theorem dX6_block_50 : decode cX6_block 50 = .ok (.aload_n 1, 1) := by decide +kernel
theorem dX6_block_51 : decode cX6_block 51 = .ok (.iconst 1, 1) := by decide +kernel
theorem dX6_block_52 : decode cX6_block 52 = .ok (.iaload, 1) := by decide +kernel
theorem dX6_block_53 : decode cX6_block 53 = .ok (.bipush 64, 2) := by decide +kernel
theorem dX6_block_55 : decode cX6_block 55 = .ok (.idiv, 1) := by decide +kernel
theorem dX6_block_56 : decode cX6_block 56 = .ok (.iastore, 1) := by decide +kernel
theorem dX6_block_57 : decode cX6_block 57 = .ok (.goto 74, 3) := by decide +kernel
theorem dX6_block_60 : decode cX6_block 60 = .ok (.iload 4, 2) := by decide +kernel
theorem dX6_block_62 : decode cX6_block 62 = .ok (.ifCond .eq 29, 3) := by decide +kernel
theorem dX6_block_65 : decode cX6_block 65 = .ok (.aload_n 1, 1) := by decide +kernel
theorem dX6_block_66 : decode cX6_block 66 = .ok (.bipush 11, 2) := by decide +kernel
theorem dX6_block_68 : decode cX6_block 68 = .ok (.dup2, 1) := by decide +kernel
theorem dX6_block_69 : decode cX6_block 69 = .ok (.iaload, 1) := by decide +kernel
theorem dX6_block_70 : decode cX6_block 70 = .ok (.iconst 1, 1) := by decide +kernel
theorem dX6_block_71 : decode cX6_block 71 = .ok (.iadd, 1) := by decide +kernel
theorem dX6_block_72 : decode cX6_block 72 = .ok (.iastore, 1) := by decide +kernel
theorem dX6_block_73 : decode cX6_block 73 = .ok (.aload_n 1, 1) := by decide +kernel
theorem dX6_block_74 : decode cX6_block 74 = .ok (.bipush 18, 2) := by decide +kernel
theorem dX6_block_76 : decode cX6_block 76 = .ok (.iload_n 2, 1) := by decide +kernel
theorem dX6_block_77 : decode cX6_block 77 = .ok (.iadd, 1) := by decide +kernel
theorem dX6_block_78 : decode cX6_block 78 = .ok (.aload_n 1, 1) := by decide +kernel
theorem dX6_block_79 : decode cX6_block 79 = .ok (.iconst 1, 1) := by decide +kernel
theorem dX6_block_80 : decode cX6_block 80 = .ok (.iaload, 1) := by decide +kernel
theorem dX6_block_81 : decode cX6_block 81 = .ok (.iload 4, 2) := by decide +kernel
theorem dX6_block_83 : decode cX6_block 83 = .ok (.ixor, 1) := by decide +kernel
theorem dX6_block_84 : decode cX6_block 84 = .ok (.bipush 64, 2) := by decide +kernel
theorem dX6_block_86 : decode cX6_block 86 = .ok (.idiv, 1) := by decide +kernel
theorem dX6_block_87 : decode cX6_block 87 = .ok (.iastore, 1) := by decide +kernel
theorem dX6_block_88 : decode cX6_block 88 = .ok (.goto 43, 3) := by decide +kernel
theorem dX6_block_91 : decode cX6_block 91 = .ok (.aload_n 1, 1) := by decide +kernel
theorem dX6_block_92 : decode cX6_block 92 = .ok (.bipush 12, 2) := by decide +kernel
theorem dX6_block_94 : decode cX6_block 94 = .ok (.dup2, 1) := by decide +kernel
theorem dX6_block_95 : decode cX6_block 95 = .ok (.iaload, 1) := by decide +kernel
theorem dX6_block_96 : decode cX6_block 96 = .ok (.iconst 1, 1) := by decide +kernel
theorem dX6_block_97 : decode cX6_block 97 = .ok (.iadd, 1) := by decide +kernel
theorem dX6_block_98 : decode cX6_block 98 = .ok (.iastore, 1) := by decide +kernel
theorem dX6_block_99 : decode cX6_block 99 = .ok (.aload_n 1, 1) := by decide +kernel
theorem dX6_block_100 : decode cX6_block 100 = .ok (.bipush 6, 2) := by decide +kernel
theorem dX6_block_102 : decode cX6_block 102 = .ok (.dup2, 1) := by decide +kernel
theorem dX6_block_103 : decode cX6_block 103 = .ok (.iaload, 1) := by decide +kernel
theorem dX6_block_104 : decode cX6_block 104 = .ok (.iconst 1, 1) := by decide +kernel
theorem dX6_block_105 : decode cX6_block 105 = .ok (.iadd, 1) := by decide +kernel
theorem dX6_block_106 : decode cX6_block 106 = .ok (.iastore, 1) := by decide +kernel
theorem dX6_block_107 : decode cX6_block 107 = .ok (.aload_n 1, 1) := by decide +kernel
theorem dX6_block_108 : decode cX6_block 108 = .ok (.bipush 18, 2) := by decide +kernel
theorem dX6_block_110 : decode cX6_block 110 = .ok (.iload_n 2, 1) := by decide +kernel
theorem dX6_block_111 : decode cX6_block 111 = .ok (.iadd, 1) := by decide +kernel
theorem dX6_block_112 : decode cX6_block 112 = .ok (.bipush (-9), 2) := by decide +kernel
theorem dX6_block_114 : decode cX6_block 114 = .ok (.iastore, 1) := by decide +kernel
theorem dX6_block_115 : decode cX6_block 115 = .ok (.aload_n 1, 1) := by decide +kernel
theorem dX6_block_116 : decode cX6_block 116 = .ok (.bipush 6, 2) := by decide +kernel
theorem dX6_block_118 : decode cX6_block 118 = .ok (.iaload, 1) := by decide +kernel
theorem dX6_block_119 : decode cX6_block 119 = .ok (.aload_n 0, 1) := by decide +kernel
theorem dX6_block_120 : decode cX6_block 120 = .ok (.getfield 57, 3) := by decide +kernel
theorem dX6_block_123 : decode cX6_block 123 = .ok (.if_icmp .ne 8, 3) := by decide +kernel
theorem dX6_block_126 : decode cX6_block 126 = .ok (.aload_n 1, 1) := by decide +kernel
theorem dX6_block_127 : decode cX6_block 127 = .ok (.invokestatic 153, 3) := by decide +kernel
theorem dX6_block_130 : decode cX6_block 130 = .ok (.return_, 1) := by decide +kernel
theorem dX6_block_131 : decode cX6_block 131 = .ok (.iload_n 2, 1) := by decide +kernel
theorem dX6_block_132 : decode cX6_block 132 = .ok (.iconst 3, 1) := by decide +kernel
theorem dX6_block_133 : decode cX6_block 133 = .ok (.if_icmp .ne 7, 3) := by decide +kernel
theorem dX6_block_136 : decode cX6_block 136 = .ok (.aload_n 1, 1) := by decide +kernel
theorem dX6_block_137 : decode cX6_block 137 = .ok (.invokestatic 143, 3) := by decide +kernel
theorem dX6_block_140 : decode cX6_block 140 = .ok (.aload_n 1, 1) := by decide +kernel
theorem dX6_block_141 : decode cX6_block 141 = .ok (.iconst 4, 1) := by decide +kernel
theorem dX6_block_142 : decode cX6_block 142 = .ok (.iload_n 2, 1) := by decide +kernel
theorem dX6_block_143 : decode cX6_block 143 = .ok (.iconst 1, 1) := by decide +kernel
theorem dX6_block_144 : decode cX6_block 144 = .ok (.iadd, 1) := by decide +kernel
theorem dX6_block_145 : decode cX6_block 145 = .ok (.iconst 4, 1) := by decide +kernel
theorem dX6_block_146 : decode cX6_block 146 = .ok (.irem, 1) := by decide +kernel
theorem dX6_block_147 : decode cX6_block 147 = .ok (.iastore, 1) := by decide +kernel
theorem dX6_block_148 : decode cX6_block 148 = .ok (.return_, 1) := by decide +kernel
theorem dX6_hearBit_0 : decode cX6_hearBit 0 = .ok (.aload_n 1, 1) := by decide +kernel
theorem dX6_hearBit_1 : decode cX6_hearBit 1 = .ok (.iconst 1, 1) := by decide +kernel
theorem dX6_hearBit_2 : decode cX6_hearBit 2 = .ok (.iconst 2, 1) := by decide +kernel
theorem dX6_hearBit_3 : decode cX6_hearBit 3 = .ok (.aload_n 1, 1) := by decide +kernel
theorem dX6_hearBit_4 : decode cX6_hearBit 4 = .ok (.iconst 1, 1) := by decide +kernel
theorem dX6_hearBit_5 : decode cX6_hearBit 5 = .ok (.iaload, 1) := by decide +kernel
theorem dX6_hearBit_6 : decode cX6_hearBit 6 = .ok (.imul, 1) := by decide +kernel
theorem dX6_hearBit_7 : decode cX6_hearBit 7 = .ok (.iload_n 2, 1) := by decide +kernel
theorem dX6_hearBit_8 : decode cX6_hearBit 8 = .ok (.iadd, 1) := by decide +kernel
theorem dX6_hearBit_9 : decode cX6_hearBit 9 = .ok (.sipush 16383, 3) := by decide +kernel
theorem dX6_hearBit_12 : decode cX6_hearBit 12 = .ok (.iand, 1) := by decide +kernel
theorem dX6_hearBit_13 : decode cX6_hearBit 13 = .ok (.iastore, 1) := by decide +kernel
theorem dX6_hearBit_14 : decode cX6_hearBit 14 = .ok (.aload_n 1, 1) := by decide +kernel
theorem dX6_hearBit_15 : decode cX6_hearBit 15 = .ok (.iconst 0, 1) := by decide +kernel
theorem dX6_hearBit_16 : decode cX6_hearBit 16 = .ok (.dup2, 1) := by decide +kernel
theorem dX6_hearBit_17 : decode cX6_hearBit 17 = .ok (.iaload, 1) := by decide +kernel
theorem dX6_hearBit_18 : decode cX6_hearBit 18 = .ok (.iconst 1, 1) := by decide +kernel
theorem dX6_hearBit_19 : decode cX6_hearBit 19 = .ok (.iadd, 1) := by decide +kernel
theorem dX6_hearBit_20 : decode cX6_hearBit 20 = .ok (.iastore, 1) := by decide +kernel
theorem dX6_hearBit_21 : decode cX6_hearBit 21 = .ok (.aload_n 1, 1) := by decide +kernel
theorem dX6_hearBit_22 : decode cX6_hearBit 22 = .ok (.iconst 2, 1) := by decide +kernel
theorem dX6_hearBit_23 : decode cX6_hearBit 23 = .ok (.dup2, 1) := by decide +kernel
theorem dX6_hearBit_24 : decode cX6_hearBit 24 = .ok (.iaload, 1) := by decide +kernel
theorem dX6_hearBit_25 : decode cX6_hearBit 25 = .ok (.iconst 1, 1) := by decide +kernel
theorem dX6_hearBit_26 : decode cX6_hearBit 26 = .ok (.iadd, 1) := by decide +kernel
theorem dX6_hearBit_27 : decode cX6_hearBit 27 = .ok (.iastore, 1) := by decide +kernel
theorem dX6_hearBit_28 : decode cX6_hearBit 28 = .ok (.aload_n 1, 1) := by decide +kernel
theorem dX6_hearBit_29 : decode cX6_hearBit 29 = .ok (.iconst 3, 1) := by decide +kernel
theorem dX6_hearBit_30 : decode cX6_hearBit 30 = .ok (.iaload, 1) := by decide +kernel
theorem dX6_hearBit_31 : decode cX6_hearBit 31 = .ok (.ifCond .ne 9, 3) := by decide +kernel
theorem dX6_hearBit_34 : decode cX6_hearBit 34 = .ok (.aload_n 0, 1) := by decide +kernel
theorem dX6_hearBit_35 : decode cX6_hearBit 35 = .ok (.aload_n 1, 1) := by decide +kernel
theorem dX6_hearBit_36 : decode cX6_hearBit 36 = .ok (.invokevirtual 156, 3) := by decide +kernel
theorem dX6_hearBit_39 : decode cX6_hearBit 39 = .ok (.return_, 1) := by decide +kernel
theorem dX6_hearBit_40 : decode cX6_hearBit 40 = .ok (.aload_n 1, 1) := by decide +kernel
theorem dX6_hearBit_41 : decode cX6_hearBit 41 = .ok (.iconst 5, 1) := by decide +kernel
theorem dX6_hearBit_42 : decode cX6_hearBit 42 = .ok (.dup2, 1) := by decide +kernel
theorem dX6_hearBit_43 : decode cX6_hearBit 43 = .ok (.iaload, 1) := by decide +kernel
theorem dX6_hearBit_44 : decode cX6_hearBit 44 = .ok (.iconst 1, 1) := by decide +kernel
theorem dX6_hearBit_45 : decode cX6_hearBit 45 = .ok (.iadd, 1) := by decide +kernel
theorem dX6_hearBit_46 : decode cX6_hearBit 46 = .ok (.iastore, 1) := by decide +kernel
theorem dX6_hearBit_47 : decode cX6_hearBit 47 = .ok (.aload_n 1, 1) := by decide +kernel
theorem dX6_hearBit_48 : decode cX6_hearBit 48 = .ok (.iconst 5, 1) := by decide +kernel
theorem dX6_hearBit_49 : decode cX6_hearBit 49 = .ok (.iaload, 1) := by decide +kernel
theorem dX6_hearBit_50 : decode cX6_hearBit 50 = .ok (.bipush 14, 2) := by decide +kernel
theorem dX6_hearBit_52 : decode cX6_hearBit 52 = .ok (.if_icmp .ne 12, 3) := by decide +kernel
theorem dX6_hearBit_55 : decode cX6_hearBit 55 = .ok (.aload_n 1, 1) := by decide +kernel
theorem dX6_hearBit_56 : decode cX6_hearBit 56 = .ok (.iconst 5, 1) := by decide +kernel
theorem dX6_hearBit_57 : decode cX6_hearBit 57 = .ok (.iconst 0, 1) := by decide +kernel
theorem dX6_hearBit_58 : decode cX6_hearBit 58 = .ok (.iastore, 1) := by decide +kernel
theorem dX6_hearBit_59 : decode cX6_hearBit 59 = .ok (.aload_n 0, 1) := by decide +kernel
theorem dX6_hearBit_60 : decode cX6_hearBit 60 = .ok (.aload_n 1, 1) := by decide +kernel
theorem dX6_hearBit_61 : decode cX6_hearBit 61 = .ok (.invokevirtual 159, 3) := by decide +kernel
theorem dX6_hearBit_64 : decode cX6_hearBit 64 = .ok (.return_, 1) := by decide +kernel
theorem dX6_hearBits_0 : decode cX6_hearBits 0 = .ok (.iload_n 2, 1) := by decide +kernel
theorem dX6_hearBits_1 : decode cX6_hearBits 1 = .ok (.iconst 1, 1) := by decide +kernel
theorem dX6_hearBits_2 : decode cX6_hearBits 2 = .ok (.isub, 1) := by decide +kernel
theorem dX6_hearBits_3 : decode cX6_hearBits 3 = .ok (.istore 4, 2) := by decide +kernel
theorem dX6_hearBits_5 : decode cX6_hearBits 5 = .ok (.iload 4, 2) := by decide +kernel
theorem dX6_hearBits_7 : decode cX6_hearBits 7 = .ok (.ifCond .lt 20, 3) := by decide +kernel
theorem dX6_hearBits_10 : decode cX6_hearBits 10 = .ok (.aload_n 0, 1) := by decide +kernel
theorem dX6_hearBits_11 : decode cX6_hearBits 11 = .ok (.aload_n 1, 1) := by decide +kernel
theorem dX6_hearBits_12 : decode cX6_hearBits 12 = .ok (.iload_n 3, 1) := by decide +kernel
theorem dX6_hearBits_13 : decode cX6_hearBits 13 = .ok (.iload 4, 2) := by decide +kernel
theorem dX6_hearBits_15 : decode cX6_hearBits 15 = .ok (.ishr, 1) := by decide +kernel
theorem dX6_hearBits_16 : decode cX6_hearBits 16 = .ok (.iconst 1, 1) := by decide +kernel
theorem dX6_hearBits_17 : decode cX6_hearBits 17 = .ok (.iand, 1) := by decide +kernel
theorem dX6_hearBits_18 : decode cX6_hearBits 18 = .ok (.invokevirtual 162, 3) := by decide +kernel
theorem dX6_hearBits_21 : decode cX6_hearBits 21 = .ok (.iinc 4 (-1), 3) := by decide +kernel
theorem dX6_hearBits_24 : decode cX6_hearBits 24 = .ok (.goto (-19), 3) := by decide +kernel
theorem dX6_hearBits_27 : decode cX6_hearBits 27 = .ok (.return_, 1) := by decide +kernel
theorem dX6_byteOf_0 : decode cX6_byteOf 0 = .ok (.iload_n 0, 1) := by decide +kernel
theorem dX6_byteOf_1 : decode cX6_byteOf 1 = .ok (.bipush 24, 2) := by decide +kernel
theorem dX6_byteOf_3 : decode cX6_byteOf 3 = .ok (.bipush 8, 2) := by decide +kernel
theorem dX6_byteOf_5 : decode cX6_byteOf 5 = .ok (.iload_n 1, 1) := by decide +kernel
theorem dX6_byteOf_6 : decode cX6_byteOf 6 = .ok (.imul, 1) := by decide +kernel
theorem dX6_byteOf_7 : decode cX6_byteOf 7 = .ok (.isub, 1) := by decide +kernel
theorem dX6_byteOf_8 : decode cX6_byteOf 8 = .ok (.ishr, 1) := by decide +kernel
theorem dX6_byteOf_9 : decode cX6_byteOf 9 = .ok (.sipush 255, 3) := by decide +kernel
theorem dX6_byteOf_12 : decode cX6_byteOf 12 = .ok (.iand, 1) := by decide +kernel
theorem dX6_byteOf_13 : decode cX6_byteOf 13 = .ok (.ireturn, 1) := by decide +kernel
theorem dX6_hearGroup_0 : decode cX6_hearGroup 0 = .ok (.iconst 0, 1) := by decide +kernel
theorem dX6_hearGroup_1 : decode cX6_hearGroup 1 = .ok (.istore 4, 2) := by decide +kernel
theorem dX6_hearGroup_3 : decode cX6_hearGroup 3 = .ok (.iload 4, 2) := by decide +kernel
theorem dX6_hearGroup_5 : decode cX6_hearGroup 5 = .ok (.iconst 4, 1) := by decide +kernel
theorem dX6_hearGroup_6 : decode cX6_hearGroup 6 = .ok (.if_icmp .ge 45, 3) := by decide +kernel
theorem dX6_hearGroup_9 : decode cX6_hearGroup 9 = .ok (.aload_n 0, 1) := by decide +kernel
theorem dX6_hearGroup_10 : decode cX6_hearGroup 10 = .ok (.aload_n 1, 1) := by decide +kernel
theorem dX6_hearGroup_11 : decode cX6_hearGroup 11 = .ok (.bipush 14, 2) := by decide +kernel
theorem dX6_hearGroup_13 : decode cX6_hearGroup 13 = .ok (.aload_n 0, 1) := by decide +kernel
theorem dX6_hearGroup_14 : decode cX6_hearGroup 14 = .ok (.iload 4, 2) := by decide +kernel
theorem dX6_hearGroup_16 : decode cX6_hearGroup 16 = .ok (.iload_n 2, 1) := by decide +kernel
theorem dX6_hearGroup_17 : decode cX6_hearGroup 17 = .ok (.iload 4, 2) := by decide +kernel
theorem dX6_hearGroup_19 : decode cX6_hearGroup 19 = .ok (.invokestatic 165, 3) := by decide +kernel
theorem dX6_hearGroup_22 : decode cX6_hearGroup 22 = .ok (.invokevirtual 168, 3) := by decide +kernel
theorem dX6_hearGroup_25 : decode cX6_hearGroup 25 = .ok (.iload_n 3, 1) := by decide +kernel
theorem dX6_hearGroup_26 : decode cX6_hearGroup 26 = .ok (.iload 4, 2) := by decide +kernel
theorem dX6_hearGroup_28 : decode cX6_hearGroup 28 = .ok (.invokestatic 72, 3) := by decide +kernel
theorem dX6_hearGroup_31 : decode cX6_hearGroup 31 = .ok (.ifCond .eq 9, 3) := by decide +kernel
theorem dX6_hearGroup_34 : decode cX6_hearGroup 34 = .ok (.sipush 16383, 3) := by decide +kernel
theorem dX6_hearGroup_37 : decode cX6_hearGroup 37 = .ok (.goto 4, 3) := by decide +kernel
theorem dX6_hearGroup_40 : decode cX6_hearGroup 40 = .ok (.iconst 0, 1) := by decide +kernel
theorem dX6_hearGroup_41 : decode cX6_hearGroup 41 = .ok (.ixor, 1) := by decide +kernel
theorem dX6_hearGroup_42 : decode cX6_hearGroup 42 = .ok (.invokevirtual 171, 3) := by decide +kernel
theorem dX6_hearGroup_45 : decode cX6_hearGroup 45 = .ok (.iinc 4 1, 3) := by decide +kernel
theorem dX6_hearGroup_48 : decode cX6_hearGroup 48 = .ok (.goto (-45), 3) := by decide +kernel
theorem dX6_hearGroup_51 : decode cX6_hearGroup 51 = .ok (.return_, 1) := by decide +kernel
theorem dX6_tell_0 : decode cX6_tell 0 = .ok (.aload_n 1, 1) := by decide +kernel
theorem dX6_tell_1 : decode cX6_tell 1 = .ok (.iconst 3, 1) := by decide +kernel
theorem dX6_tell_2 : decode cX6_tell 2 = .ok (.iaload, 1) := by decide +kernel
theorem dX6_tell_3 : decode cX6_tell 3 = .ok (.iconst 1, 1) := by decide +kernel
theorem dX6_tell_4 : decode cX6_tell 4 = .ok (.if_icmp .ne 7, 3) := by decide +kernel
theorem dX6_tell_7 : decode cX6_tell 7 = .ok (.iconst 1, 1) := by decide +kernel
theorem dX6_tell_8 : decode cX6_tell 8 = .ok (.goto 4, 3) := by decide +kernel
theorem dX6_tell_11 : decode cX6_tell 11 = .ok (.iconst 0, 1) := by decide +kernel
theorem dX6_tell_12 : decode cX6_tell 12 = .ok (.istore_n 3, 1) := by decide +kernel
theorem dX6_tell_13 : decode cX6_tell 13 = .ok (.iload_n 2, 1) := by decide +kernel
theorem dX6_tell_14 : decode cX6_tell 14 = .ok (.tableswitch 90 3 8 #[38, 42, 46, 50, 63, 76], 38) := by decide +kernel
theorem dX6_tell_52 : decode cX6_tell 52 = .ok (.aload_n 1, 1) := by decide +kernel
theorem dX6_tell_53 : decode cX6_tell 53 = .ok (.iconst 0, 1) := by decide +kernel
theorem dX6_tell_54 : decode cX6_tell 54 = .ok (.iaload, 1) := by decide +kernel
theorem dX6_tell_55 : decode cX6_tell 55 = .ok (.ireturn, 1) := by decide +kernel
theorem dX6_tell_56 : decode cX6_tell 56 = .ok (.aload_n 1, 1) := by decide +kernel
theorem dX6_tell_57 : decode cX6_tell 57 = .ok (.iconst 1, 1) := by decide +kernel
theorem dX6_tell_58 : decode cX6_tell 58 = .ok (.iaload, 1) := by decide +kernel
theorem dX6_tell_59 : decode cX6_tell 59 = .ok (.ireturn, 1) := by decide +kernel
theorem dX6_tell_60 : decode cX6_tell 60 = .ok (.aload_n 1, 1) := by decide +kernel
theorem dX6_tell_61 : decode cX6_tell 61 = .ok (.iconst 3, 1) := by decide +kernel
theorem dX6_tell_62 : decode cX6_tell 62 = .ok (.iaload, 1) := by decide +kernel
theorem dX6_tell_63 : decode cX6_tell 63 = .ok (.ireturn, 1) := by decide +kernel
theorem dX6_tell_64 : decode cX6_tell 64 = .ok (.iload_n 3, 1) := by decide +kernel
theorem dX6_tell_65 : decode cX6_tell 65 = .ok (.ifCond .eq 9, 3) := by decide +kernel
theorem dX6_tell_68 : decode cX6_tell 68 = .ok (.aload_n 1, 1) := by decide +kernel
theorem dX6_tell_69 : decode cX6_tell 69 = .ok (.iconst 4, 1) := by decide +kernel
theorem dX6_tell_70 : decode cX6_tell 70 = .ok (.iaload, 1) := by decide +kernel
theorem dX6_tell_71 : decode cX6_tell 71 = .ok (.goto 5, 3) := by decide +kernel
theorem dX6_tell_74 : decode cX6_tell 74 = .ok (.bipush (-9), 2) := by decide +kernel
theorem dX6_tell_76 : decode cX6_tell 76 = .ok (.ireturn, 1) := by decide +kernel
theorem dX6_tell_77 : decode cX6_tell 77 = .ok (.iload_n 3, 1) := by decide +kernel
theorem dX6_tell_78 : decode cX6_tell 78 = .ok (.ifCond .eq 9, 3) := by decide +kernel
theorem dX6_tell_81 : decode cX6_tell 81 = .ok (.aload_n 1, 1) := by decide +kernel
theorem dX6_tell_82 : decode cX6_tell 82 = .ok (.iconst 5, 1) := by decide +kernel
theorem dX6_tell_83 : decode cX6_tell 83 = .ok (.iaload, 1) := by decide +kernel
theorem dX6_tell_84 : decode cX6_tell 84 = .ok (.goto 5, 3) := by decide +kernel
theorem dX6_tell_87 : decode cX6_tell 87 = .ok (.bipush (-9), 2) := by decide +kernel
theorem dX6_tell_89 : decode cX6_tell 89 = .ok (.ireturn, 1) := by decide +kernel
theorem dX6_tell_90 : decode cX6_tell 90 = .ok (.iload_n 3, 1) := by decide +kernel
theorem dX6_tell_91 : decode cX6_tell 91 = .ok (.ifCond .eq 10, 3) := by decide +kernel
theorem dX6_tell_94 : decode cX6_tell 94 = .ok (.aload_n 1, 1) := by decide +kernel
theorem dX6_tell_95 : decode cX6_tell 95 = .ok (.bipush 6, 2) := by decide +kernel
theorem dX6_tell_97 : decode cX6_tell 97 = .ok (.iaload, 1) := by decide +kernel
theorem dX6_tell_98 : decode cX6_tell 98 = .ok (.goto 5, 3) := by decide +kernel
theorem dX6_tell_101 : decode cX6_tell 101 = .ok (.bipush (-9), 2) := by decide +kernel
theorem dX6_tell_103 : decode cX6_tell 103 = .ok (.ireturn, 1) := by decide +kernel
theorem dX6_tell_104 : decode cX6_tell 104 = .ok (.aload_n 1, 1) := by decide +kernel
theorem dX6_tell_105 : decode cX6_tell 105 = .ok (.bipush 10, 2) := by decide +kernel
theorem dX6_tell_107 : decode cX6_tell 107 = .ok (.iload_n 2, 1) := by decide +kernel
theorem dX6_tell_108 : decode cX6_tell 108 = .ok (.iadd, 1) := by decide +kernel
theorem dX6_tell_109 : decode cX6_tell 109 = .ok (.bipush 9, 2) := by decide +kernel
theorem dX6_tell_111 : decode cX6_tell 111 = .ok (.isub, 1) := by decide +kernel
theorem dX6_tell_112 : decode cX6_tell 112 = .ok (.iaload, 1) := by decide +kernel
theorem dX6_tell_113 : decode cX6_tell 113 = .ok (.ireturn, 1) := by decide +kernel
theorem dX6_about_0 : decode cX6_about 0 = .ok (.iload_n 1, 1) := by decide +kernel
theorem dX6_about_1 : decode cX6_about 1 = .ok (.tableswitch 127 0 17 #[87, 92, 97, 127, 127, 127, 127, 127, 127, 127, 127, 127, 127, 102, 107, 112, 117, 122], 87) := by decide +kernel
theorem dX6_about_88 : decode cX6_about 88 = .ok (.aload_n 0, 1) := by decide +kernel
theorem dX6_about_89 : decode cX6_about 89 = .ok (.getfield 53, 3) := by decide +kernel
theorem dX6_about_92 : decode cX6_about 92 = .ok (.ireturn, 1) := by decide +kernel
theorem dX6_about_93 : decode cX6_about 93 = .ok (.aload_n 0, 1) := by decide +kernel
theorem dX6_about_94 : decode cX6_about 94 = .ok (.getfield 82, 3) := by decide +kernel
theorem dX6_about_97 : decode cX6_about 97 = .ok (.ireturn, 1) := by decide +kernel
theorem dX6_about_98 : decode cX6_about 98 = .ok (.aload_n 0, 1) := by decide +kernel
theorem dX6_about_99 : decode cX6_about 99 = .ok (.getfield 57, 3) := by decide +kernel
theorem dX6_about_102 : decode cX6_about 102 = .ok (.ireturn, 1) := by decide +kernel
theorem dX6_about_103 : decode cX6_about 103 = .ok (.aload_n 0, 1) := by decide +kernel
theorem dX6_about_104 : decode cX6_about 104 = .ok (.getfield 118, 3) := by decide +kernel
theorem dX6_about_107 : decode cX6_about 107 = .ok (.ireturn, 1) := by decide +kernel
theorem dX6_about_108 : decode cX6_about 108 = .ok (.aload_n 0, 1) := by decide +kernel
theorem dX6_about_109 : decode cX6_about 109 = .ok (.getfield 174, 3) := by decide +kernel
theorem dX6_about_112 : decode cX6_about 112 = .ok (.ireturn, 1) := by decide +kernel
theorem dX6_about_113 : decode cX6_about 113 = .ok (.aload_n 0, 1) := by decide +kernel
theorem dX6_about_114 : decode cX6_about 114 = .ok (.getfield 94, 3) := by decide +kernel
theorem dX6_about_117 : decode cX6_about 117 = .ok (.ireturn, 1) := by decide +kernel
theorem dX6_about_118 : decode cX6_about 118 = .ok (.aload_n 0, 1) := by decide +kernel
theorem dX6_about_119 : decode cX6_about 119 = .ok (.getfield 76, 3) := by decide +kernel
theorem dX6_about_122 : decode cX6_about 122 = .ok (.ireturn, 1) := by decide +kernel
theorem dX6_about_123 : decode cX6_about 123 = .ok (.aload_n 0, 1) := by decide +kernel
theorem dX6_about_124 : decode cX6_about 124 = .ok (.getfield 79, 3) := by decide +kernel
theorem dX6_about_127 : decode cX6_about 127 = .ok (.ireturn, 1) := by decide +kernel
theorem dX6_about_128 : decode cX6_about 128 = .ok (.iload_n 1, 1) := by decide +kernel
theorem dX6_about_129 : decode cX6_about 129 = .ok (.i2l, 1) := by decide +kernel
theorem dX6_about_130 : decode cX6_about 130 = .ok (.ldc2_w 66, 3) := by decide +kernel
theorem dX6_about_133 : decode cX6_about 133 = .ok (.ldc2_w 177, 3) := by decide +kernel
theorem dX6_about_136 : decode cX6_about 136 = .ok (.invokestatic 68, 3) := by decide +kernel
theorem dX6_about_139 : decode cX6_about 139 = .ok (.ifCond .eq 15, 3) := by decide +kernel
theorem dX6_about_142 : decode cX6_about 142 = .ok (.aload_n 0, 1) := by decide +kernel
theorem dX6_about_143 : decode cX6_about 143 = .ok (.aload_n 0, 1) := by decide +kernel
theorem dX6_about_144 : decode cX6_about 144 = .ok (.getfield 22, 3) := by decide +kernel
theorem dX6_about_147 : decode cX6_about 147 = .ok (.iload_n 1, 1) := by decide +kernel
theorem dX6_about_148 : decode cX6_about 148 = .ok (.invokevirtual 179, 3) := by decide +kernel
theorem dX6_about_151 : decode cX6_about 151 = .ok (.goto 5, 3) := by decide +kernel
theorem dX6_about_154 : decode cX6_about 154 = .ok (.bipush (-2), 2) := by decide +kernel
theorem dX6_about_156 : decode cX6_about 156 = .ok (.ireturn, 1) := by decide +kernel
theorem dX6_offset_0 : decode cX6_offset 0 = .ok (.iload_n 1, 1) := by decide +kernel
theorem dX6_offset_1 : decode cX6_offset 1 = .ok (.invokestatic 183, 3) := by decide +kernel
theorem dX6_offset_4 : decode cX6_offset 4 = .ok (.ifCond .eq 12, 3) := by decide +kernel
theorem dX6_offset_7 : decode cX6_offset 7 = .ok (.aload_n 0, 1) := by decide +kernel
theorem dX6_offset_8 : decode cX6_offset 8 = .ok (.getfield 13, 3) := by decide +kernel
theorem dX6_offset_11 : decode cX6_offset 11 = .ok (.iload_n 1, 1) := by decide +kernel
theorem dX6_offset_12 : decode cX6_offset 12 = .ok (.iaload, 1) := by decide +kernel
theorem dX6_offset_13 : decode cX6_offset 13 = .ok (.goto 4, 3) := by decide +kernel
theorem dX6_offset_16 : decode cX6_offset 16 = .ok (.iconst (-1), 1) := by decide +kernel
theorem dX6_offset_17 : decode cX6_offset 17 = .ok (.ireturn, 1) := by decide +kernel
theorem dX6_thereAre_0 : decode cX6_thereAre 0 = .ok (.iconst 0, 1) := by decide +kernel
theorem dX6_thereAre_1 : decode cX6_thereAre 1 = .ok (.istore_n 2, 1) := by decide +kernel
theorem dX6_thereAre_2 : decode cX6_thereAre 2 = .ok (.iconst 0, 1) := by decide +kernel
theorem dX6_thereAre_3 : decode cX6_thereAre 3 = .ok (.istore_n 3, 1) := by decide +kernel
theorem dX6_thereAre_4 : decode cX6_thereAre 4 = .ok (.iload_n 3, 1) := by decide +kernel
theorem dX6_thereAre_5 : decode cX6_thereAre 5 = .ok (.iconst 4, 1) := by decide +kernel
theorem dX6_thereAre_6 : decode cX6_thereAre 6 = .ok (.if_icmp .ge 32, 3) := by decide +kernel
theorem dX6_thereAre_9 : decode cX6_thereAre 9 = .ok (.iload_n 2, 1) := by decide +kernel
theorem dX6_thereAre_10 : decode cX6_thereAre 10 = .ok (.aload_n 0, 1) := by decide +kernel
theorem dX6_thereAre_11 : decode cX6_thereAre 11 = .ok (.getfield 22, 3) := by decide +kernel
theorem dX6_thereAre_14 : decode cX6_thereAre 14 = .ok (.iload_n 1, 1) := by decide +kernel
theorem dX6_thereAre_15 : decode cX6_thereAre 15 = .ok (.iload_n 3, 1) := by decide +kernel
theorem dX6_thereAre_16 : decode cX6_thereAre 16 = .ok (.iadd, 1) := by decide +kernel
theorem dX6_thereAre_17 : decode cX6_thereAre 17 = .ok (.iaload, 1) := by decide +kernel
theorem dX6_thereAre_18 : decode cX6_thereAre 18 = .ok (.bipush (-9), 2) := by decide +kernel
theorem dX6_thereAre_20 : decode cX6_thereAre 20 = .ok (.if_icmp .eq 9, 3) := by decide +kernel
theorem dX6_thereAre_23 : decode cX6_thereAre 23 = .ok (.iconst 1, 1) := by decide +kernel
theorem dX6_thereAre_24 : decode cX6_thereAre 24 = .ok (.iload_n 3, 1) := by decide +kernel
theorem dX6_thereAre_25 : decode cX6_thereAre 25 = .ok (.ishl, 1) := by decide +kernel
theorem dX6_thereAre_26 : decode cX6_thereAre 26 = .ok (.goto 4, 3) := by decide +kernel
theorem dX6_thereAre_29 : decode cX6_thereAre 29 = .ok (.iconst 0, 1) := by decide +kernel
theorem dX6_thereAre_30 : decode cX6_thereAre 30 = .ok (.ior, 1) := by decide +kernel
theorem dX6_thereAre_31 : decode cX6_thereAre 31 = .ok (.istore_n 2, 1) := by decide +kernel
theorem dX6_thereAre_32 : decode cX6_thereAre 32 = .ok (.iinc 3 1, 3) := by decide +kernel
theorem dX6_thereAre_35 : decode cX6_thereAre 35 = .ok (.goto (-31), 3) := by decide +kernel
theorem dX6_thereAre_38 : decode cX6_thereAre 38 = .ok (.iload_n 2, 1) := by decide +kernel
theorem dX6_thereAre_39 : decode cX6_thereAre 39 = .ok (.ireturn, 1) := by decide +kernel
theorem dX6_told_0 : decode cX6_told 0 = .ok (.iload_n 1, 1) := by decide +kernel
theorem dX6_told_1 : decode cX6_told 1 = .ok (.tableswitch 97 0 6 #[43, 51, 59, 67, 75, 83, 90], 43) := by decide +kernel
theorem dX6_told_44 : decode cX6_told 44 = .ok (.aload_n 0, 1) := by decide +kernel
theorem dX6_told_45 : decode cX6_told 45 = .ok (.getfield 22, 3) := by decide +kernel
theorem dX6_told_48 : decode cX6_told 48 = .ok (.bipush 14, 2) := by decide +kernel
theorem dX6_told_50 : decode cX6_told 50 = .ok (.iaload, 1) := by decide +kernel
theorem dX6_told_51 : decode cX6_told 51 = .ok (.ireturn, 1) := by decide +kernel
theorem dX6_told_52 : decode cX6_told 52 = .ok (.aload_n 0, 1) := by decide +kernel
theorem dX6_told_53 : decode cX6_told 53 = .ok (.getfield 22, 3) := by decide +kernel
theorem dX6_told_56 : decode cX6_told 56 = .ok (.bipush 15, 2) := by decide +kernel
theorem dX6_told_58 : decode cX6_told 58 = .ok (.iaload, 1) := by decide +kernel
theorem dX6_told_59 : decode cX6_told 59 = .ok (.ireturn, 1) := by decide +kernel
theorem dX6_told_60 : decode cX6_told 60 = .ok (.aload_n 0, 1) := by decide +kernel
theorem dX6_told_61 : decode cX6_told 61 = .ok (.getfield 22, 3) := by decide +kernel
theorem dX6_told_64 : decode cX6_told 64 = .ok (.bipush 16, 2) := by decide +kernel
theorem dX6_told_66 : decode cX6_told 66 = .ok (.iaload, 1) := by decide +kernel
theorem dX6_told_67 : decode cX6_told 67 = .ok (.ireturn, 1) := by decide +kernel
theorem dX6_told_68 : decode cX6_told 68 = .ok (.aload_n 0, 1) := by decide +kernel
theorem dX6_told_69 : decode cX6_told 69 = .ok (.getfield 22, 3) := by decide +kernel
theorem dX6_told_72 : decode cX6_told 72 = .ok (.bipush 17, 2) := by decide +kernel
theorem dX6_told_74 : decode cX6_told 74 = .ok (.iaload, 1) := by decide +kernel
theorem dX6_told_75 : decode cX6_told 75 = .ok (.ireturn, 1) := by decide +kernel
theorem dX6_told_76 : decode cX6_told 76 = .ok (.aload_n 0, 1) := by decide +kernel
theorem dX6_told_77 : decode cX6_told 77 = .ok (.getfield 22, 3) := by decide +kernel
theorem dX6_told_80 : decode cX6_told 80 = .ok (.bipush 30, 2) := by decide +kernel
theorem dX6_told_82 : decode cX6_told 82 = .ok (.iaload, 1) := by decide +kernel
theorem dX6_told_83 : decode cX6_told 83 = .ok (.ireturn, 1) := by decide +kernel
theorem dX6_told_84 : decode cX6_told 84 = .ok (.aload_n 0, 1) := by decide +kernel
theorem dX6_told_85 : decode cX6_told 85 = .ok (.bipush 22, 2) := by decide +kernel
theorem dX6_told_87 : decode cX6_told 87 = .ok (.invokevirtual 187, 3) := by decide +kernel
theorem dX6_told_90 : decode cX6_told 90 = .ok (.ireturn, 1) := by decide +kernel
theorem dX6_told_91 : decode cX6_told 91 = .ok (.aload_n 0, 1) := by decide +kernel
theorem dX6_told_92 : decode cX6_told 92 = .ok (.bipush 18, 2) := by decide +kernel
theorem dX6_told_94 : decode cX6_told 94 = .ok (.invokevirtual 187, 3) := by decide +kernel
theorem dX6_told_97 : decode cX6_told 97 = .ok (.ireturn, 1) := by decide +kernel
theorem dX6_told_98 : decode cX6_told 98 = .ok (.bipush (-2), 2) := by decide +kernel
theorem dX6_told_100 : decode cX6_told 100 = .ok (.ireturn, 1) := by decide +kernel
theorem dX6_part_0 : decode cX6_part 0 = .ok (.iload_n 1, 1) := by decide +kernel
theorem dX6_part_1 : decode cX6_part 1 = .ok (.invokestatic 183, 3) := by decide +kernel
theorem dX6_part_4 : decode cX6_part 4 = .ok (.ifCond .eq 15, 3) := by decide +kernel
theorem dX6_part_7 : decode cX6_part 7 = .ok (.aload_n 0, 1) := by decide +kernel
theorem dX6_part_8 : decode cX6_part 8 = .ok (.getfield 22, 3) := by decide +kernel
theorem dX6_part_11 : decode cX6_part 11 = .ok (.bipush 18, 2) := by decide +kernel
theorem dX6_part_13 : decode cX6_part 13 = .ok (.iload_n 1, 1) := by decide +kernel
theorem dX6_part_14 : decode cX6_part 14 = .ok (.iadd, 1) := by decide +kernel
theorem dX6_part_15 : decode cX6_part 15 = .ok (.iaload, 1) := by decide +kernel
theorem dX6_part_16 : decode cX6_part 16 = .ok (.goto 4, 3) := by decide +kernel
theorem dX6_part_19 : decode cX6_part 19 = .ok (.iconst (-1), 1) := by decide +kernel
theorem dX6_part_20 : decode cX6_part 20 = .ok (.ireturn, 1) := by decide +kernel
theorem dX6_name_0 : decode cX6_name 0 = .ok (.iload_n 1, 1) := by decide +kernel
theorem dX6_name_1 : decode cX6_name 1 = .ok (.invokestatic 183, 3) := by decide +kernel
theorem dX6_name_4 : decode cX6_name 4 = .ok (.ifCond .eq 24, 3) := by decide +kernel
theorem dX6_name_7 : decode cX6_name 7 = .ok (.aload_n 0, 1) := by decide +kernel
theorem dX6_name_8 : decode cX6_name 8 = .ok (.getfield 22, 3) := by decide +kernel
theorem dX6_name_11 : decode cX6_name 11 = .ok (.iload_n 2, 1) := by decide +kernel
theorem dX6_name_12 : decode cX6_name 12 = .ok (.ifCond .eq 8, 3) := by decide +kernel
theorem dX6_name_15 : decode cX6_name 15 = .ok (.bipush 26, 2) := by decide +kernel
theorem dX6_name_17 : decode cX6_name 17 = .ok (.goto 5, 3) := by decide +kernel
theorem dX6_name_20 : decode cX6_name 20 = .ok (.bipush 22, 2) := by decide +kernel
theorem dX6_name_22 : decode cX6_name 22 = .ok (.iload_n 1, 1) := by decide +kernel
theorem dX6_name_23 : decode cX6_name 23 = .ok (.iadd, 1) := by decide +kernel
theorem dX6_name_24 : decode cX6_name 24 = .ok (.iaload, 1) := by decide +kernel
theorem dX6_name_25 : decode cX6_name 25 = .ok (.goto 4, 3) := by decide +kernel
theorem dX6_name_28 : decode cX6_name 28 = .ok (.iconst (-1), 1) := by decide +kernel
theorem dX6_name_29 : decode cX6_name 29 = .ok (.ireturn, 1) := by decide +kernel
theorem dX6_aheadOf_0 : decode cX6_aheadOf 0 = .ok (.iconst 0, 1) := by decide +kernel
theorem dX6_aheadOf_1 : decode cX6_aheadOf 1 = .ok (.istore_n 2, 1) := by decide +kernel
theorem dX6_aheadOf_2 : decode cX6_aheadOf 2 = .ok (.iconst 0, 1) := by decide +kernel
theorem dX6_aheadOf_3 : decode cX6_aheadOf 3 = .ok (.istore_n 3, 1) := by decide +kernel
theorem dX6_aheadOf_4 : decode cX6_aheadOf 4 = .ok (.iload_n 3, 1) := by decide +kernel
theorem dX6_aheadOf_5 : decode cX6_aheadOf 5 = .ok (.aload_n 0, 1) := by decide +kernel
theorem dX6_aheadOf_6 : decode cX6_aheadOf 6 = .ok (.getfield 22, 3) := by decide +kernel
theorem dX6_aheadOf_9 : decode cX6_aheadOf 9 = .ok (.bipush 30, 2) := by decide +kernel
theorem dX6_aheadOf_11 : decode cX6_aheadOf 11 = .ok (.iaload, 1) := by decide +kernel
theorem dX6_aheadOf_12 : decode cX6_aheadOf 12 = .ok (.if_icmp .ge 92, 3) := by decide +kernel
theorem dX6_aheadOf_15 : decode cX6_aheadOf 15 = .ok (.aload_n 0, 1) := by decide +kernel
theorem dX6_aheadOf_16 : decode cX6_aheadOf 16 = .ok (.getfield 22, 3) := by decide +kernel
theorem dX6_aheadOf_19 : decode cX6_aheadOf 19 = .ok (.bipush 39, 2) := by decide +kernel
theorem dX6_aheadOf_21 : decode cX6_aheadOf 21 = .ok (.iload_n 3, 1) := by decide +kernel
theorem dX6_aheadOf_22 : decode cX6_aheadOf 22 = .ok (.iadd, 1) := by decide +kernel
theorem dX6_aheadOf_23 : decode cX6_aheadOf 23 = .ok (.iaload, 1) := by decide +kernel
theorem dX6_aheadOf_24 : decode cX6_aheadOf 24 = .ok (.aload_n 0, 1) := by decide +kernel
theorem dX6_aheadOf_25 : decode cX6_aheadOf 25 = .ok (.getfield 22, 3) := by decide +kernel
theorem dX6_aheadOf_28 : decode cX6_aheadOf 28 = .ok (.bipush 39, 2) := by decide +kernel
theorem dX6_aheadOf_30 : decode cX6_aheadOf 30 = .ok (.iload_n 1, 1) := by decide +kernel
theorem dX6_aheadOf_31 : decode cX6_aheadOf 31 = .ok (.iadd, 1) := by decide +kernel
theorem dX6_aheadOf_32 : decode cX6_aheadOf 32 = .ok (.iaload, 1) := by decide +kernel
theorem dX6_aheadOf_33 : decode cX6_aheadOf 33 = .ok (.if_icmp .gt 45, 3) := by decide +kernel
theorem dX6_aheadOf_36 : decode cX6_aheadOf 36 = .ok (.aload_n 0, 1) := by decide +kernel
theorem dX6_aheadOf_37 : decode cX6_aheadOf 37 = .ok (.getfield 22, 3) := by decide +kernel
theorem dX6_aheadOf_40 : decode cX6_aheadOf 40 = .ok (.bipush 39, 2) := by decide +kernel
theorem dX6_aheadOf_42 : decode cX6_aheadOf 42 = .ok (.iload_n 3, 1) := by decide +kernel
theorem dX6_aheadOf_43 : decode cX6_aheadOf 43 = .ok (.iadd, 1) := by decide +kernel
theorem dX6_aheadOf_44 : decode cX6_aheadOf 44 = .ok (.iaload, 1) := by decide +kernel
theorem dX6_aheadOf_45 : decode cX6_aheadOf 45 = .ok (.aload_n 0, 1) := by decide +kernel
theorem dX6_aheadOf_46 : decode cX6_aheadOf 46 = .ok (.getfield 22, 3) := by decide +kernel
theorem dX6_aheadOf_49 : decode cX6_aheadOf 49 = .ok (.bipush 39, 2) := by decide +kernel
theorem dX6_aheadOf_51 : decode cX6_aheadOf 51 = .ok (.iload_n 1, 1) := by decide +kernel
theorem dX6_aheadOf_52 : decode cX6_aheadOf 52 = .ok (.iadd, 1) := by decide +kernel
theorem dX6_aheadOf_53 : decode cX6_aheadOf 53 = .ok (.iaload, 1) := by decide +kernel
theorem dX6_aheadOf_54 : decode cX6_aheadOf 54 = .ok (.if_icmp .ne 28, 3) := by decide +kernel
theorem dX6_aheadOf_57 : decode cX6_aheadOf 57 = .ok (.aload_n 0, 1) := by decide +kernel
theorem dX6_aheadOf_58 : decode cX6_aheadOf 58 = .ok (.getfield 22, 3) := by decide +kernel
theorem dX6_aheadOf_61 : decode cX6_aheadOf 61 = .ok (.bipush 31, 2) := by decide +kernel
theorem dX6_aheadOf_63 : decode cX6_aheadOf 63 = .ok (.iload_n 3, 1) := by decide +kernel
theorem dX6_aheadOf_64 : decode cX6_aheadOf 64 = .ok (.iadd, 1) := by decide +kernel
theorem dX6_aheadOf_65 : decode cX6_aheadOf 65 = .ok (.iaload, 1) := by decide +kernel
theorem dX6_aheadOf_66 : decode cX6_aheadOf 66 = .ok (.aload_n 0, 1) := by decide +kernel
theorem dX6_aheadOf_67 : decode cX6_aheadOf 67 = .ok (.getfield 22, 3) := by decide +kernel
theorem dX6_aheadOf_70 : decode cX6_aheadOf 70 = .ok (.bipush 31, 2) := by decide +kernel
theorem dX6_aheadOf_72 : decode cX6_aheadOf 72 = .ok (.iload_n 1, 1) := by decide +kernel
theorem dX6_aheadOf_73 : decode cX6_aheadOf 73 = .ok (.iadd, 1) := by decide +kernel
theorem dX6_aheadOf_74 : decode cX6_aheadOf 74 = .ok (.iaload, 1) := by decide +kernel
theorem dX6_aheadOf_75 : decode cX6_aheadOf 75 = .ok (.if_icmp .ge 7, 3) := by decide +kernel
theorem dX6_aheadOf_78 : decode cX6_aheadOf 78 = .ok (.iconst 1, 1) := by decide +kernel
theorem dX6_aheadOf_79 : decode cX6_aheadOf 79 = .ok (.goto 4, 3) := by decide +kernel
theorem dX6_aheadOf_82 : decode cX6_aheadOf 82 = .ok (.iconst 0, 1) := by decide +kernel
theorem dX6_aheadOf_83 : decode cX6_aheadOf 83 = .ok (.istore 4, 2) := by decide +kernel
theorem dX6_aheadOf_85 : decode cX6_aheadOf 85 = .ok (.iload_n 2, 1) := by decide +kernel
theorem dX6_aheadOf_86 : decode cX6_aheadOf 86 = .ok (.iload 4, 2) := by decide +kernel
theorem dX6_aheadOf_88 : decode cX6_aheadOf 88 = .ok (.ifCond .eq 7, 3) := by decide +kernel
theorem dX6_aheadOf_91 : decode cX6_aheadOf 91 = .ok (.iconst 1, 1) := by decide +kernel
theorem dX6_aheadOf_92 : decode cX6_aheadOf 92 = .ok (.goto 4, 3) := by decide +kernel
theorem dX6_aheadOf_95 : decode cX6_aheadOf 95 = .ok (.iconst 0, 1) := by decide +kernel
theorem dX6_aheadOf_96 : decode cX6_aheadOf 96 = .ok (.iadd, 1) := by decide +kernel
theorem dX6_aheadOf_97 : decode cX6_aheadOf 97 = .ok (.istore_n 2, 1) := by decide +kernel
theorem dX6_aheadOf_98 : decode cX6_aheadOf 98 = .ok (.iinc 3 1, 3) := by decide +kernel
theorem dX6_aheadOf_101 : decode cX6_aheadOf 101 = .ok (.goto (-97), 3) := by decide +kernel
theorem dX6_aheadOf_104 : decode cX6_aheadOf 104 = .ok (.iload_n 2, 1) := by decide +kernel
theorem dX6_aheadOf_105 : decode cX6_aheadOf 105 = .ok (.ireturn, 1) := by decide +kernel
theorem dX6_list_0 : decode cX6_list 0 = .ok (.bipush (-9), 2) := by decide +kernel
theorem dX6_list_2 : decode cX6_list 2 = .ok (.istore_n 3, 1) := by decide +kernel
theorem dX6_list_3 : decode cX6_list 3 = .ok (.iconst 0, 1) := by decide +kernel
theorem dX6_list_4 : decode cX6_list 4 = .ok (.istore 4, 2) := by decide +kernel
theorem dX6_list_6 : decode cX6_list 6 = .ok (.iload 4, 2) := by decide +kernel
theorem dX6_list_8 : decode cX6_list 8 = .ok (.aload_n 0, 1) := by decide +kernel
theorem dX6_list_9 : decode cX6_list 9 = .ok (.getfield 22, 3) := by decide +kernel
theorem dX6_list_12 : decode cX6_list 12 = .ok (.bipush 30, 2) := by decide +kernel
theorem dX6_list_14 : decode cX6_list 14 = .ok (.iaload, 1) := by decide +kernel
theorem dX6_list_15 : decode cX6_list 15 = .ok (.if_icmp .ge 43, 3) := by decide +kernel
theorem dX6_list_18 : decode cX6_list 18 = .ok (.aload_n 0, 1) := by decide +kernel
theorem dX6_list_19 : decode cX6_list 19 = .ok (.iload 4, 2) := by decide +kernel
theorem dX6_list_21 : decode cX6_list 21 = .ok (.invokevirtual 190, 3) := by decide +kernel
theorem dX6_list_24 : decode cX6_list 24 = .ok (.iload_n 1, 1) := by decide +kernel
theorem dX6_list_25 : decode cX6_list 25 = .ok (.if_icmp .ne 25, 3) := by decide +kernel
theorem dX6_list_28 : decode cX6_list 28 = .ok (.aload_n 0, 1) := by decide +kernel
theorem dX6_list_29 : decode cX6_list 29 = .ok (.getfield 22, 3) := by decide +kernel
theorem dX6_list_32 : decode cX6_list 32 = .ok (.iload_n 2, 1) := by decide +kernel
theorem dX6_list_33 : decode cX6_list 33 = .ok (.ifCond .eq 8, 3) := by decide +kernel
theorem dX6_list_36 : decode cX6_list 36 = .ok (.bipush 39, 2) := by decide +kernel
theorem dX6_list_38 : decode cX6_list 38 = .ok (.goto 5, 3) := by decide +kernel
theorem dX6_list_41 : decode cX6_list 41 = .ok (.bipush 31, 2) := by decide +kernel
theorem dX6_list_43 : decode cX6_list 43 = .ok (.iload 4, 2) := by decide +kernel
theorem dX6_list_45 : decode cX6_list 45 = .ok (.iadd, 1) := by decide +kernel
theorem dX6_list_46 : decode cX6_list 46 = .ok (.iaload, 1) := by decide +kernel
theorem dX6_list_47 : decode cX6_list 47 = .ok (.goto 4, 3) := by decide +kernel
theorem dX6_list_50 : decode cX6_list 50 = .ok (.iload_n 3, 1) := by decide +kernel
theorem dX6_list_51 : decode cX6_list 51 = .ok (.istore_n 3, 1) := by decide +kernel
theorem dX6_list_52 : decode cX6_list 52 = .ok (.iinc 4 1, 3) := by decide +kernel
theorem dX6_list_55 : decode cX6_list 55 = .ok (.goto (-49), 3) := by decide +kernel
theorem dX6_list_58 : decode cX6_list 58 = .ok (.iload_n 3, 1) := by decide +kernel
theorem dX6_list_59 : decode cX6_list 59 = .ok (.ireturn, 1) := by decide +kernel
theorem dX6_word_0 : decode cX6_word 0 = .ok (.iload_n 1, 1) := by decide +kernel
theorem dX6_word_1 : decode cX6_word 1 = .ok (.invokestatic 183, 3) := by decide +kernel
theorem dX6_word_4 : decode cX6_word 4 = .ok (.ifCond .ne 7, 3) := by decide +kernel
theorem dX6_word_7 : decode cX6_word 7 = .ok (.iconst (-1), 1) := by decide +kernel
theorem dX6_word_8 : decode cX6_word 8 = .ok (.goto 26, 3) := by decide +kernel
theorem dX6_word_11 : decode cX6_word 11 = .ok (.iload_n 2, 1) := by decide +kernel
theorem dX6_word_12 : decode cX6_word 12 = .ok (.i2l, 1) := by decide +kernel
theorem dX6_word_13 : decode cX6_word 13 = .ok (.lconst 0, 1) := by decide +kernel
theorem dX6_word_14 : decode cX6_word 14 = .ok (.ldc2_w 92, 3) := by decide +kernel
theorem dX6_word_17 : decode cX6_word 17 = .ok (.invokestatic 68, 3) := by decide +kernel
theorem dX6_word_20 : decode cX6_word 20 = .ok (.ifCond .eq 12, 3) := by decide +kernel
theorem dX6_word_23 : decode cX6_word 23 = .ok (.aload_n 0, 1) := by decide +kernel
theorem dX6_word_24 : decode cX6_word 24 = .ok (.iload_n 1, 1) := by decide +kernel
theorem dX6_word_25 : decode cX6_word 25 = .ok (.iload_n 2, 1) := by decide +kernel
theorem dX6_word_26 : decode cX6_word 26 = .ok (.invokevirtual 168, 3) := by decide +kernel
theorem dX6_word_29 : decode cX6_word 29 = .ok (.goto 5, 3) := by decide +kernel
theorem dX6_word_32 : decode cX6_word 32 = .ok (.bipush (-2), 2) := by decide +kernel
theorem dX6_word_34 : decode cX6_word 34 = .ok (.ireturn, 1) := by decide +kernel
theorem dX6_rest_0 : decode cX6_rest 0 = .ok (.iload_n 1, 1) := by decide +kernel
theorem dX6_rest_1 : decode cX6_rest 1 = .ok (.invokestatic 183, 3) := by decide +kernel
theorem dX6_rest_4 : decode cX6_rest 4 = .ok (.ifCond .ne 7, 3) := by decide +kernel
theorem dX6_rest_7 : decode cX6_rest 7 = .ok (.iconst (-1), 1) := by decide +kernel
theorem dX6_rest_8 : decode cX6_rest 8 = .ok (.goto 26, 3) := by decide +kernel
theorem dX6_rest_11 : decode cX6_rest 11 = .ok (.iload_n 2, 1) := by decide +kernel
theorem dX6_rest_12 : decode cX6_rest 12 = .ok (.i2l, 1) := by decide +kernel
theorem dX6_rest_13 : decode cX6_rest 13 = .ok (.lconst 0, 1) := by decide +kernel
theorem dX6_rest_14 : decode cX6_rest 14 = .ok (.ldc2_w 193, 3) := by decide +kernel
theorem dX6_rest_17 : decode cX6_rest 17 = .ok (.invokestatic 68, 3) := by decide +kernel
theorem dX6_rest_20 : decode cX6_rest 20 = .ok (.ifCond .eq 12, 3) := by decide +kernel
theorem dX6_rest_23 : decode cX6_rest 23 = .ok (.aload_n 0, 1) := by decide +kernel
theorem dX6_rest_24 : decode cX6_rest 24 = .ok (.iload_n 1, 1) := by decide +kernel
theorem dX6_rest_25 : decode cX6_rest 25 = .ok (.iload_n 2, 1) := by decide +kernel
theorem dX6_rest_26 : decode cX6_rest 26 = .ok (.invokevirtual 146, 3) := by decide +kernel
theorem dX6_rest_29 : decode cX6_rest 29 = .ok (.goto 5, 3) := by decide +kernel
theorem dX6_rest_32 : decode cX6_rest 32 = .ok (.bipush (-2), 2) := by decide +kernel
theorem dX6_rest_34 : decode cX6_rest 34 = .ok (.ireturn, 1) := by decide +kernel
theorem dX6_mended_0 : decode cX6_mended 0 = .ok (.iload_n 1, 1) := by decide +kernel
theorem dX6_mended_1 : decode cX6_mended 1 = .ok (.invokestatic 183, 3) := by decide +kernel
theorem dX6_mended_4 : decode cX6_mended 4 = .ok (.ifCond .ne 5, 3) := by decide +kernel
theorem dX6_mended_7 : decode cX6_mended 7 = .ok (.iconst (-1), 1) := by decide +kernel
theorem dX6_mended_8 : decode cX6_mended 8 = .ok (.ireturn, 1) := by decide +kernel
theorem dX6_mended_9 : decode cX6_mended 9 = .ok (.iload_n 2, 1) := by decide +kernel
theorem dX6_mended_10 : decode cX6_mended 10 = .ok (.i2l, 1) := by decide +kernel
theorem dX6_mended_11 : decode cX6_mended 11 = .ok (.lconst 0, 1) := by decide +kernel
theorem dX6_mended_12 : decode cX6_mended 12 = .ok (.ldc2_w 193, 3) := by decide +kernel
theorem dX6_mended_15 : decode cX6_mended 15 = .ok (.invokestatic 68, 3) := by decide +kernel
theorem dX6_mended_18 : decode cX6_mended 18 = .ok (.ifCond .ne 6, 3) := by decide +kernel
theorem dX6_mended_21 : decode cX6_mended 21 = .ok (.bipush (-2), 2) := by decide +kernel
theorem dX6_mended_23 : decode cX6_mended 23 = .ok (.ireturn, 1) := by decide +kernel
theorem dX6_mended_24 : decode cX6_mended 24 = .ok (.aload_n 0, 1) := by decide +kernel
theorem dX6_mended_25 : decode cX6_mended 25 = .ok (.iload_n 1, 1) := by decide +kernel
theorem dX6_mended_26 : decode cX6_mended 26 = .ok (.iload_n 2, 1) := by decide +kernel
theorem dX6_mended_27 : decode cX6_mended 27 = .ok (.invokevirtual 146, 3) := by decide +kernel
theorem dX6_mended_30 : decode cX6_mended 30 = .ok (.istore_n 3, 1) := by decide +kernel
theorem dX6_mended_31 : decode cX6_mended 31 = .ok (.aload_n 0, 1) := by decide +kernel
theorem dX6_mended_32 : decode cX6_mended 32 = .ok (.iload_n 3, 1) := by decide +kernel
theorem dX6_mended_33 : decode cX6_mended 33 = .ok (.invokevirtual 150, 3) := by decide +kernel
theorem dX6_mended_36 : decode cX6_mended 36 = .ok (.istore 4, 2) := by decide +kernel
theorem dX6_mended_38 : decode cX6_mended 38 = .ok (.iload_n 3, 1) := by decide +kernel
theorem dX6_mended_39 : decode cX6_mended 39 = .ok (.ifCond .eq 13, 3) := by decide +kernel
theorem dX6_mended_42 : decode cX6_mended 42 = .ok (.iload 4, 2) := by decide +kernel
theorem dX6_mended_44 : decode cX6_mended 44 = .ok (.ifCond .ne 8, 3) := by decide +kernel
theorem dX6_mended_47 : decode cX6_mended 47 = .ok (.bipush (-9), 2) := by decide +kernel
theorem dX6_mended_49 : decode cX6_mended 49 = .ok (.goto 10, 3) := by decide +kernel
theorem dX6_mended_52 : decode cX6_mended 52 = .ok (.iload_n 2, 1) := by decide +kernel
theorem dX6_mended_53 : decode cX6_mended 53 = .ok (.iload 4, 2) := by decide +kernel
theorem dX6_mended_55 : decode cX6_mended 55 = .ok (.ixor, 1) := by decide +kernel
theorem dX6_mended_56 : decode cX6_mended 56 = .ok (.bipush 64, 2) := by decide +kernel
theorem dX6_mended_58 : decode cX6_mended 58 = .ok (.idiv, 1) := by decide +kernel
theorem dX6_mended_59 : decode cX6_mended 59 = .ok (.ireturn, 1) := by decide +kernel
theorem dX6_distance_0 : decode cX6_distance 0 = .ok (.bipush 14, 2) := by decide +kernel
theorem dX6_distance_2 : decode cX6_distance 2 = .ok (.istore_n 1, 1) := by decide +kernel
theorem dX6_distance_3 : decode cX6_distance 3 = .ok (.iconst 1, 1) := by decide +kernel
theorem dX6_distance_4 : decode cX6_distance 4 = .ok (.istore_n 2, 1) := by decide +kernel
theorem dX6_distance_5 : decode cX6_distance 5 = .ok (.iload_n 2, 1) := by decide +kernel
theorem dX6_distance_6 : decode cX6_distance 6 = .ok (.sipush 256, 3) := by decide +kernel
theorem dX6_distance_9 : decode cX6_distance 9 = .ok (.if_icmp .ge 37, 3) := by decide +kernel
theorem dX6_distance_12 : decode cX6_distance 12 = .ok (.bipush 64, 2) := by decide +kernel
theorem dX6_distance_14 : decode cX6_distance 14 = .ok (.iload_n 2, 1) := by decide +kernel
theorem dX6_distance_15 : decode cX6_distance 15 = .ok (.imul, 1) := by decide +kernel
theorem dX6_distance_16 : decode cX6_distance 16 = .ok (.aload_n 0, 1) := by decide +kernel
theorem dX6_distance_17 : decode cX6_distance 17 = .ok (.bipush 64, 2) := by decide +kernel
theorem dX6_distance_19 : decode cX6_distance 19 = .ok (.iload_n 2, 1) := by decide +kernel
theorem dX6_distance_20 : decode cX6_distance 20 = .ok (.imul, 1) := by decide +kernel
theorem dX6_distance_21 : decode cX6_distance 21 = .ok (.invokevirtual 89, 3) := by decide +kernel
theorem dX6_distance_24 : decode cX6_distance 24 = .ok (.iadd, 1) := by decide +kernel
theorem dX6_distance_25 : decode cX6_distance 25 = .ok (.invokestatic 195, 3) := by decide +kernel
theorem dX6_distance_28 : decode cX6_distance 28 = .ok (.istore_n 3, 1) := by decide +kernel
theorem dX6_distance_29 : decode cX6_distance 29 = .ok (.iload_n 3, 1) := by decide +kernel
theorem dX6_distance_30 : decode cX6_distance 30 = .ok (.iload_n 1, 1) := by decide +kernel
theorem dX6_distance_31 : decode cX6_distance 31 = .ok (.if_icmp .ge 7, 3) := by decide +kernel
theorem dX6_distance_34 : decode cX6_distance 34 = .ok (.iload_n 3, 1) := by decide +kernel
theorem dX6_distance_35 : decode cX6_distance 35 = .ok (.goto 4, 3) := by decide +kernel
theorem dX6_distance_38 : decode cX6_distance 38 = .ok (.iload_n 1, 1) := by decide +kernel
theorem dX6_distance_39 : decode cX6_distance 39 = .ok (.istore_n 1, 1) := by decide +kernel
theorem dX6_distance_40 : decode cX6_distance 40 = .ok (.iinc 2 1, 3) := by decide +kernel
theorem dX6_distance_43 : decode cX6_distance 43 = .ok (.goto (-38), 3) := by decide +kernel
theorem dX6_distance_46 : decode cX6_distance 46 = .ok (.iload_n 1, 1) := by decide +kernel
theorem dX6_distance_47 : decode cX6_distance 47 = .ok (.ireturn, 1) := by decide +kernel
theorem dX6_flips_0 : decode cX6_flips 0 = .ok (.iload_n 1, 1) := by decide +kernel
theorem dX6_flips_1 : decode cX6_flips 1 = .ok (.i2l, 1) := by decide +kernel
theorem dX6_flips_2 : decode cX6_flips 2 = .ok (.lconst 0, 1) := by decide +kernel
theorem dX6_flips_3 : decode cX6_flips 3 = .ok (.ldc2_w 141, 3) := by decide +kernel
theorem dX6_flips_6 : decode cX6_flips 6 = .ok (.invokestatic 68, 3) := by decide +kernel
theorem dX6_flips_9 : decode cX6_flips 9 = .ok (.ifCond .eq 15, 3) := by decide +kernel
theorem dX6_flips_12 : decode cX6_flips 12 = .ok (.iload_n 2, 1) := by decide +kernel
theorem dX6_flips_13 : decode cX6_flips 13 = .ok (.i2l, 1) := by decide +kernel
theorem dX6_flips_14 : decode cX6_flips 14 = .ok (.lconst 0, 1) := by decide +kernel
theorem dX6_flips_15 : decode cX6_flips 15 = .ok (.ldc2_w 66, 3) := by decide +kernel
theorem dX6_flips_18 : decode cX6_flips 18 = .ok (.invokestatic 68, 3) := by decide +kernel
theorem dX6_flips_21 : decode cX6_flips 21 = .ok (.ifCond .ne 6, 3) := by decide +kernel
theorem dX6_flips_24 : decode cX6_flips 24 = .ok (.bipush (-2), 2) := by decide +kernel
theorem dX6_flips_26 : decode cX6_flips 26 = .ok (.ireturn, 1) := by decide +kernel
theorem dX6_flips_27 : decode cX6_flips 27 = .ok (.iconst 0, 1) := by decide +kernel
theorem dX6_flips_28 : decode cX6_flips 28 = .ok (.istore_n 3, 1) := by decide +kernel
theorem dX6_flips_29 : decode cX6_flips 29 = .ok (.iconst 0, 1) := by decide +kernel
theorem dX6_flips_30 : decode cX6_flips 30 = .ok (.istore 4, 2) := by decide +kernel
theorem dX6_flips_32 : decode cX6_flips 32 = .ok (.iload 4, 2) := by decide +kernel
theorem dX6_flips_34 : decode cX6_flips 34 = .ok (.sipush 16383, 3) := by decide +kernel
theorem dX6_flips_37 : decode cX6_flips 37 = .ok (.if_icmp .gt 80, 3) := by decide +kernel
theorem dX6_flips_40 : decode cX6_flips 40 = .ok (.iload 4, 2) := by decide +kernel
theorem dX6_flips_42 : decode cX6_flips 42 = .ok (.invokestatic 195, 3) := by decide +kernel
theorem dX6_flips_45 : decode cX6_flips 45 = .ok (.iload_n 1, 1) := by decide +kernel
theorem dX6_flips_46 : decode cX6_flips 46 = .ok (.if_icmp .ne 65, 3) := by decide +kernel
theorem dX6_flips_49 : decode cX6_flips 49 = .ok (.aload_n 0, 1) := by decide +kernel
theorem dX6_flips_50 : decode cX6_flips 50 = .ok (.iload 4, 2) := by decide +kernel
theorem dX6_flips_52 : decode cX6_flips 52 = .ok (.invokevirtual 89, 3) := by decide +kernel
theorem dX6_flips_55 : decode cX6_flips 55 = .ok (.istore 5, 2) := by decide +kernel
theorem dX6_flips_57 : decode cX6_flips 57 = .ok (.aload_n 0, 1) := by decide +kernel
theorem dX6_flips_58 : decode cX6_flips 58 = .ok (.iload 5, 2) := by decide +kernel
theorem dX6_flips_60 : decode cX6_flips 60 = .ok (.invokevirtual 150, 3) := by decide +kernel
theorem dX6_flips_63 : decode cX6_flips 63 = .ok (.istore 6, 2) := by decide +kernel
theorem dX6_flips_65 : decode cX6_flips 65 = .ok (.iload 5, 2) := by decide +kernel
theorem dX6_flips_67 : decode cX6_flips 67 = .ok (.ifCond .ne 7, 3) := by decide +kernel
theorem dX6_flips_70 : decode cX6_flips 70 = .ok (.iconst 0, 1) := by decide +kernel
theorem dX6_flips_71 : decode cX6_flips 71 = .ok (.goto 24, 3) := by decide +kernel
theorem dX6_flips_74 : decode cX6_flips 74 = .ok (.iload 6, 2) := by decide +kernel
theorem dX6_flips_76 : decode cX6_flips 76 = .ok (.ifCond .ne 7, 3) := by decide +kernel
theorem dX6_flips_79 : decode cX6_flips 79 = .ok (.iconst 3, 1) := by decide +kernel
theorem dX6_flips_80 : decode cX6_flips 80 = .ok (.goto 15, 3) := by decide +kernel
theorem dX6_flips_83 : decode cX6_flips 83 = .ok (.iload 6, 2) := by decide +kernel
theorem dX6_flips_85 : decode cX6_flips 85 = .ok (.iload 4, 2) := by decide +kernel
theorem dX6_flips_87 : decode cX6_flips 87 = .ok (.if_icmp .ne 7, 3) := by decide +kernel
theorem dX6_flips_90 : decode cX6_flips 90 = .ok (.iconst 1, 1) := by decide +kernel
theorem dX6_flips_91 : decode cX6_flips 91 = .ok (.goto 4, 3) := by decide +kernel
theorem dX6_flips_94 : decode cX6_flips 94 = .ok (.iconst 2, 1) := by decide +kernel
theorem dX6_flips_95 : decode cX6_flips 95 = .ok (.istore 7, 2) := by decide +kernel
theorem dX6_flips_97 : decode cX6_flips 97 = .ok (.iload_n 3, 1) := by decide +kernel
theorem dX6_flips_98 : decode cX6_flips 98 = .ok (.iload 7, 2) := by decide +kernel
theorem dX6_flips_100 : decode cX6_flips 100 = .ok (.iload_n 2, 1) := by decide +kernel
theorem dX6_flips_101 : decode cX6_flips 101 = .ok (.if_icmp .ne 7, 3) := by decide +kernel
theorem dX6_flips_104 : decode cX6_flips 104 = .ok (.iconst 1, 1) := by decide +kernel
theorem dX6_flips_105 : decode cX6_flips 105 = .ok (.goto 4, 3) := by decide +kernel
theorem dX6_flips_108 : decode cX6_flips 108 = .ok (.iconst 0, 1) := by decide +kernel
theorem dX6_flips_109 : decode cX6_flips 109 = .ok (.iadd, 1) := by decide +kernel
theorem dX6_flips_110 : decode cX6_flips 110 = .ok (.istore_n 3, 1) := by decide +kernel
theorem dX6_flips_111 : decode cX6_flips 111 = .ok (.iinc 4 1, 3) := by decide +kernel
theorem dX6_flips_114 : decode cX6_flips 114 = .ok (.goto (-82), 3) := by decide +kernel
theorem dX6_flips_117 : decode cX6_flips 117 = .ok (.iload_n 3, 1) := by decide +kernel
theorem dX6_flips_118 : decode cX6_flips 118 = .ok (.ireturn, 1) := by decide +kernel
theorem dX6_slips_0 : decode cX6_slips 0 = .ok (.iload_n 1, 1) := by decide +kernel
theorem dX6_slips_1 : decode cX6_slips 1 = .ok (.invokestatic 183, 3) := by decide +kernel
theorem dX6_slips_4 : decode cX6_slips 4 = .ok (.ifCond .ne 5, 3) := by decide +kernel
theorem dX6_slips_7 : decode cX6_slips 7 = .ok (.iconst (-1), 1) := by decide +kernel
theorem dX6_slips_8 : decode cX6_slips 8 = .ok (.ireturn, 1) := by decide +kernel
theorem dX6_slips_9 : decode cX6_slips 9 = .ok (.iload_n 2, 1) := by decide +kernel
theorem dX6_slips_10 : decode cX6_slips 10 = .ok (.i2l, 1) := by decide +kernel
theorem dX6_slips_11 : decode cX6_slips 11 = .ok (.lconst 0, 1) := by decide +kernel
theorem dX6_slips_12 : decode cX6_slips 12 = .ok (.ldc2_w 92, 3) := by decide +kernel
theorem dX6_slips_15 : decode cX6_slips 15 = .ok (.invokestatic 68, 3) := by decide +kernel
theorem dX6_slips_18 : decode cX6_slips 18 = .ok (.ifCond .eq 15, 3) := by decide +kernel
theorem dX6_slips_21 : decode cX6_slips 21 = .ok (.iload_n 3, 1) := by decide +kernel
theorem dX6_slips_22 : decode cX6_slips 22 = .ok (.i2l, 1) := by decide +kernel
theorem dX6_slips_23 : decode cX6_slips 23 = .ok (.lconst 0, 1) := by decide +kernel
theorem dX6_slips_24 : decode cX6_slips 24 = .ok (.ldc2_w 92, 3) := by decide +kernel
theorem dX6_slips_27 : decode cX6_slips 27 = .ok (.invokestatic 68, 3) := by decide +kernel
theorem dX6_slips_30 : decode cX6_slips 30 = .ok (.ifCond .ne 6, 3) := by decide +kernel
theorem dX6_slips_33 : decode cX6_slips 33 = .ok (.bipush (-2), 2) := by decide +kernel
theorem dX6_slips_35 : decode cX6_slips 35 = .ok (.ireturn, 1) := by decide +kernel
theorem dX6_slips_36 : decode cX6_slips 36 = .ok (.aload_n 0, 1) := by decide +kernel
theorem dX6_slips_37 : decode cX6_slips 37 = .ok (.iload_n 1, 1) := by decide +kernel
theorem dX6_slips_38 : decode cX6_slips 38 = .ok (.iload_n 2, 1) := by decide +kernel
theorem dX6_slips_39 : decode cX6_slips 39 = .ok (.invokevirtual 168, 3) := by decide +kernel
theorem dX6_slips_42 : decode cX6_slips 42 = .ok (.bipush 14, 2) := by decide +kernel
theorem dX6_slips_44 : decode cX6_slips 44 = .ok (.ishl, 1) := by decide +kernel
theorem dX6_slips_45 : decode cX6_slips 45 = .ok (.aload_n 0, 1) := by decide +kernel
theorem dX6_slips_46 : decode cX6_slips 46 = .ok (.iload_n 1, 1) := by decide +kernel
theorem dX6_slips_47 : decode cX6_slips 47 = .ok (.iconst 1, 1) := by decide +kernel
theorem dX6_slips_48 : decode cX6_slips 48 = .ok (.iadd, 1) := by decide +kernel
theorem dX6_slips_49 : decode cX6_slips 49 = .ok (.iconst 4, 1) := by decide +kernel
theorem dX6_slips_50 : decode cX6_slips 50 = .ok (.irem, 1) := by decide +kernel
theorem dX6_slips_51 : decode cX6_slips 51 = .ok (.iload_n 3, 1) := by decide +kernel
theorem dX6_slips_52 : decode cX6_slips 52 = .ok (.invokevirtual 168, 3) := by decide +kernel
theorem dX6_slips_55 : decode cX6_slips 55 = .ok (.ior, 1) := by decide +kernel
theorem dX6_slips_56 : decode cX6_slips 56 = .ok (.istore 4, 2) := by decide +kernel
theorem dX6_slips_58 : decode cX6_slips 58 = .ok (.iconst 0, 1) := by decide +kernel
theorem dX6_slips_59 : decode cX6_slips 59 = .ok (.istore 5, 2) := by decide +kernel
theorem dX6_slips_61 : decode cX6_slips 61 = .ok (.iconst 1, 1) := by decide +kernel
theorem dX6_slips_62 : decode cX6_slips 62 = .ok (.istore 6, 2) := by decide +kernel
theorem dX6_slips_64 : decode cX6_slips 64 = .ok (.iload 6, 2) := by decide +kernel
theorem dX6_slips_66 : decode cX6_slips 66 = .ok (.bipush 14, 2) := by decide +kernel
theorem dX6_slips_68 : decode cX6_slips 68 = .ok (.if_icmp .ge 58, 3) := by decide +kernel
theorem dX6_slips_71 : decode cX6_slips 71 = .ok (.iconst 0, 1) := by decide +kernel
theorem dX6_slips_72 : decode cX6_slips 72 = .ok (.istore 7, 2) := by decide +kernel
theorem dX6_slips_74 : decode cX6_slips 74 = .ok (.iload 7, 2) := by decide +kernel
theorem dX6_slips_76 : decode cX6_slips 76 = .ok (.iconst 4, 1) := by decide +kernel
theorem dX6_slips_77 : decode cX6_slips 77 = .ok (.if_icmp .ge 43, 3) := by decide +kernel
theorem dX6_slips_80 : decode cX6_slips 80 = .ok (.iload 5, 2) := by decide +kernel
theorem dX6_slips_82 : decode cX6_slips 82 = .ok (.aload_n 0, 1) := by decide +kernel
theorem dX6_slips_83 : decode cX6_slips 83 = .ok (.iload 7, 2) := by decide +kernel
theorem dX6_slips_85 : decode cX6_slips 85 = .ok (.iload 4, 2) := by decide +kernel
theorem dX6_slips_87 : decode cX6_slips 87 = .ok (.bipush 14, 2) := by decide +kernel
theorem dX6_slips_89 : decode cX6_slips 89 = .ok (.iload 6, 2) := by decide +kernel
theorem dX6_slips_91 : decode cX6_slips 91 = .ok (.isub, 1) := by decide +kernel
theorem dX6_slips_92 : decode cX6_slips 92 = .ok (.ishr, 1) := by decide +kernel
theorem dX6_slips_93 : decode cX6_slips 93 = .ok (.sipush 16383, 3) := by decide +kernel
theorem dX6_slips_96 : decode cX6_slips 96 = .ok (.iand, 1) := by decide +kernel
theorem dX6_slips_97 : decode cX6_slips 97 = .ok (.invokevirtual 146, 3) := by decide +kernel
theorem dX6_slips_100 : decode cX6_slips 100 = .ok (.ifCond .ne 10, 3) := by decide +kernel
theorem dX6_slips_103 : decode cX6_slips 103 = .ok (.iconst 1, 1) := by decide +kernel
theorem dX6_slips_104 : decode cX6_slips 104 = .ok (.iload 6, 2) := by decide +kernel
theorem dX6_slips_106 : decode cX6_slips 106 = .ok (.ishl, 1) := by decide +kernel
theorem dX6_slips_107 : decode cX6_slips 107 = .ok (.goto 4, 3) := by decide +kernel
theorem dX6_slips_110 : decode cX6_slips 110 = .ok (.iconst 0, 1) := by decide +kernel
theorem dX6_slips_111 : decode cX6_slips 111 = .ok (.ior, 1) := by decide +kernel
theorem dX6_slips_112 : decode cX6_slips 112 = .ok (.istore 5, 2) := by decide +kernel
theorem dX6_slips_114 : decode cX6_slips 114 = .ok (.iinc 7 1, 3) := by decide +kernel
theorem dX6_slips_117 : decode cX6_slips 117 = .ok (.goto (-43), 3) := by decide +kernel
theorem dX6_slips_120 : decode cX6_slips 120 = .ok (.iinc 6 1, 3) := by decide +kernel
theorem dX6_slips_123 : decode cX6_slips 123 = .ok (.goto (-59), 3) := by decide +kernel
end
section
theorem dX6_slips_126 : decode cX6_slips 126 = .ok (.iload 5, 2) := by decide +kernel
theorem dX6_slips_128 : decode cX6_slips 128 = .ok (.ireturn, 1) := by decide +kernel
theorem dX6_note_0 : decode cX6_note 0 = .ok (.iconst 0, 1) := by decide +kernel
theorem dX6_note_1 : decode cX6_note 1 = .ok (.istore_n 1, 1) := by decide +kernel
theorem dX6_note_2 : decode cX6_note 2 = .ok (.iload_n 1, 1) := by decide +kernel
theorem dX6_note_3 : decode cX6_note 3 = .ok (.bipush 47, 2) := by decide +kernel
theorem dX6_note_5 : decode cX6_note 5 = .ok (.if_icmp .ge 29, 3) := by decide +kernel
theorem dX6_note_8 : decode cX6_note 8 = .ok (.aload_n 0, 1) := by decide +kernel
theorem dX6_note_9 : decode cX6_note 9 = .ok (.getfield 28, 3) := by decide +kernel
theorem dX6_note_12 : decode cX6_note 12 = .ok (.bipush 47, 2) := by decide +kernel
theorem dX6_note_14 : decode cX6_note 14 = .ok (.aload_n 0, 1) := by decide +kernel
theorem dX6_note_15 : decode cX6_note 15 = .ok (.getfield 198, 3) := by decide +kernel
theorem dX6_note_18 : decode cX6_note 18 = .ok (.imul, 1) := by decide +kernel
theorem dX6_note_19 : decode cX6_note 19 = .ok (.iload_n 1, 1) := by decide +kernel
theorem dX6_note_20 : decode cX6_note 20 = .ok (.iadd, 1) := by decide +kernel
theorem dX6_note_21 : decode cX6_note 21 = .ok (.aload_n 0, 1) := by decide +kernel
theorem dX6_note_22 : decode cX6_note 22 = .ok (.getfield 22, 3) := by decide +kernel
theorem dX6_note_25 : decode cX6_note 25 = .ok (.iload_n 1, 1) := by decide +kernel
theorem dX6_note_26 : decode cX6_note 26 = .ok (.iaload, 1) := by decide +kernel
theorem dX6_note_27 : decode cX6_note 27 = .ok (.iastore, 1) := by decide +kernel
theorem dX6_note_28 : decode cX6_note 28 = .ok (.iinc 1 1, 3) := by decide +kernel
theorem dX6_note_31 : decode cX6_note 31 = .ok (.goto (-29), 3) := by decide +kernel
theorem dX6_note_34 : decode cX6_note 34 = .ok (.aload_n 0, 1) := by decide +kernel
theorem dX6_note_35 : decode cX6_note 35 = .ok (.aload_n 0, 1) := by decide +kernel
theorem dX6_note_36 : decode cX6_note 36 = .ok (.getfield 198, 3) := by decide +kernel
theorem dX6_note_39 : decode cX6_note 39 = .ok (.iconst 1, 1) := by decide +kernel
theorem dX6_note_40 : decode cX6_note 40 = .ok (.iadd, 1) := by decide +kernel
theorem dX6_note_41 : decode cX6_note 41 = .ok (.bipush 14, 2) := by decide +kernel
theorem dX6_note_43 : decode cX6_note 43 = .ok (.irem, 1) := by decide +kernel
theorem dX6_note_44 : decode cX6_note 44 = .ok (.putfield 198, 3) := by decide +kernel
theorem dX6_note_47 : decode cX6_note 47 = .ok (.aload_n 0, 1) := by decide +kernel
theorem dX6_note_48 : decode cX6_note 48 = .ok (.aload_n 0, 1) := by decide +kernel
theorem dX6_note_49 : decode cX6_note 49 = .ok (.getfield 118, 3) := by decide +kernel
theorem dX6_note_52 : decode cX6_note 52 = .ok (.bipush 14, 2) := by decide +kernel
theorem dX6_note_54 : decode cX6_note 54 = .ok (.if_icmp .ge 12, 3) := by decide +kernel
theorem dX6_note_57 : decode cX6_note 57 = .ok (.aload_n 0, 1) := by decide +kernel
theorem dX6_note_58 : decode cX6_note 58 = .ok (.getfield 118, 3) := by decide +kernel
theorem dX6_note_61 : decode cX6_note 61 = .ok (.iconst 1, 1) := by decide +kernel
theorem dX6_note_62 : decode cX6_note 62 = .ok (.iadd, 1) := by decide +kernel
theorem dX6_note_63 : decode cX6_note 63 = .ok (.goto 5, 3) := by decide +kernel
theorem dX6_note_66 : decode cX6_note 66 = .ok (.bipush 14, 2) := by decide +kernel
theorem dX6_note_68 : decode cX6_note 68 = .ok (.putfield 118, 3) := by decide +kernel
theorem dX6_note_71 : decode cX6_note 71 = .ok (.return_, 1) := by decide +kernel
theorem dX6_bits_0 : decode cX6_bits 0 = .ok (.iload_n 1, 1) := by decide +kernel
theorem dX6_bits_1 : decode cX6_bits 1 = .ok (.i2l, 1) := by decide +kernel
theorem dX6_bits_2 : decode cX6_bits 2 = .ok (.lconst 1, 1) := by decide +kernel
theorem dX6_bits_3 : decode cX6_bits 3 = .ok (.ldc2_w 201, 3) := by decide +kernel
theorem dX6_bits_6 : decode cX6_bits 6 = .ok (.invokestatic 68, 3) := by decide +kernel
theorem dX6_bits_9 : decode cX6_bits 9 = .ok (.ifCond .eq 18, 3) := by decide +kernel
theorem dX6_bits_12 : decode cX6_bits 12 = .ok (.iload_n 2, 1) := by decide +kernel
theorem dX6_bits_13 : decode cX6_bits 13 = .ok (.i2l, 1) := by decide +kernel
theorem dX6_bits_14 : decode cX6_bits 14 = .ok (.lconst 0, 1) := by decide +kernel
theorem dX6_bits_15 : decode cX6_bits 15 = .ok (.iconst 1, 1) := by decide +kernel
theorem dX6_bits_16 : decode cX6_bits 16 = .ok (.iload_n 1, 1) := by decide +kernel
theorem dX6_bits_17 : decode cX6_bits 17 = .ok (.ishl, 1) := by decide +kernel
theorem dX6_bits_18 : decode cX6_bits 18 = .ok (.iconst 1, 1) := by decide +kernel
theorem dX6_bits_19 : decode cX6_bits 19 = .ok (.isub, 1) := by decide +kernel
theorem dX6_bits_20 : decode cX6_bits 20 = .ok (.i2l, 1) := by decide +kernel
theorem dX6_bits_21 : decode cX6_bits 21 = .ok (.invokestatic 68, 3) := by decide +kernel
theorem dX6_bits_24 : decode cX6_bits 24 = .ok (.ifCond .ne 6, 3) := by decide +kernel
theorem dX6_bits_27 : decode cX6_bits 27 = .ok (.bipush (-2), 2) := by decide +kernel
theorem dX6_bits_29 : decode cX6_bits 29 = .ok (.ireturn, 1) := by decide +kernel
theorem dX6_bits_30 : decode cX6_bits 30 = .ok (.aload_n 0, 1) := by decide +kernel
theorem dX6_bits_31 : decode cX6_bits 31 = .ok (.invokevirtual 203, 3) := by decide +kernel
theorem dX6_bits_34 : decode cX6_bits 34 = .ok (.aload_n 0, 1) := by decide +kernel
theorem dX6_bits_35 : decode cX6_bits 35 = .ok (.aload_n 0, 1) := by decide +kernel
theorem dX6_bits_36 : decode cX6_bits 36 = .ok (.getfield 22, 3) := by decide +kernel
theorem dX6_bits_39 : decode cX6_bits 39 = .ok (.iload_n 1, 1) := by decide +kernel
theorem dX6_bits_40 : decode cX6_bits 40 = .ok (.iload_n 2, 1) := by decide +kernel
theorem dX6_bits_41 : decode cX6_bits 41 = .ok (.invokevirtual 171, 3) := by decide +kernel
theorem dX6_bits_44 : decode cX6_bits 44 = .ok (.aload_n 0, 1) := by decide +kernel
theorem dX6_bits_45 : decode cX6_bits 45 = .ok (.getfield 22, 3) := by decide +kernel
theorem dX6_bits_48 : decode cX6_bits 48 = .ok (.iconst 3, 1) := by decide +kernel
theorem dX6_bits_49 : decode cX6_bits 49 = .ok (.iaload, 1) := by decide +kernel
theorem dX6_bits_50 : decode cX6_bits 50 = .ok (.ireturn, 1) := by decide +kernel
theorem dX6_hear_0 : decode cX6_hear 0 = .ok (.iload_n 1, 1) := by decide +kernel
theorem dX6_hear_1 : decode cX6_hear 1 = .ok (.invokestatic 183, 3) := by decide +kernel
theorem dX6_hear_4 : decode cX6_hear 4 = .ok (.ifCond .ne 5, 3) := by decide +kernel
theorem dX6_hear_7 : decode cX6_hear 7 = .ok (.iconst (-1), 1) := by decide +kernel
theorem dX6_hear_8 : decode cX6_hear 8 = .ok (.ireturn, 1) := by decide +kernel
theorem dX6_hear_9 : decode cX6_hear 9 = .ok (.iload_n 2, 1) := by decide +kernel
theorem dX6_hear_10 : decode cX6_hear 10 = .ok (.i2l, 1) := by decide +kernel
theorem dX6_hear_11 : decode cX6_hear 11 = .ok (.lconst 0, 1) := by decide +kernel
theorem dX6_hear_12 : decode cX6_hear 12 = .ok (.ldc2_w 92, 3) := by decide +kernel
theorem dX6_hear_15 : decode cX6_hear 15 = .ok (.invokestatic 68, 3) := by decide +kernel
theorem dX6_hear_18 : decode cX6_hear 18 = .ok (.ifCond .eq 15, 3) := by decide +kernel
theorem dX6_hear_21 : decode cX6_hear 21 = .ok (.iload_n 3, 1) := by decide +kernel
theorem dX6_hear_22 : decode cX6_hear 22 = .ok (.i2l, 1) := by decide +kernel
theorem dX6_hear_23 : decode cX6_hear 23 = .ok (.lconst 0, 1) := by decide +kernel
theorem dX6_hear_24 : decode cX6_hear 24 = .ok (.ldc2_w 193, 3) := by decide +kernel
theorem dX6_hear_27 : decode cX6_hear 27 = .ok (.invokestatic 68, 3) := by decide +kernel
theorem dX6_hear_30 : decode cX6_hear 30 = .ok (.ifCond .ne 6, 3) := by decide +kernel
theorem dX6_hear_33 : decode cX6_hear 33 = .ok (.bipush (-2), 2) := by decide +kernel
theorem dX6_hear_35 : decode cX6_hear 35 = .ok (.ireturn, 1) := by decide +kernel
theorem dX6_hear_36 : decode cX6_hear 36 = .ok (.aload_n 0, 1) := by decide +kernel
theorem dX6_hear_37 : decode cX6_hear 37 = .ok (.invokevirtual 203, 3) := by decide +kernel
theorem dX6_hear_40 : decode cX6_hear 40 = .ok (.aload_n 0, 1) := by decide +kernel
theorem dX6_hear_41 : decode cX6_hear 41 = .ok (.aload_n 0, 1) := by decide +kernel
theorem dX6_hear_42 : decode cX6_hear 42 = .ok (.getfield 22, 3) := by decide +kernel
theorem dX6_hear_45 : decode cX6_hear 45 = .ok (.bipush 14, 2) := by decide +kernel
theorem dX6_hear_47 : decode cX6_hear 47 = .ok (.aload_n 0, 1) := by decide +kernel
theorem dX6_hear_48 : decode cX6_hear 48 = .ok (.iload_n 1, 1) := by decide +kernel
theorem dX6_hear_49 : decode cX6_hear 49 = .ok (.iload_n 2, 1) := by decide +kernel
theorem dX6_hear_50 : decode cX6_hear 50 = .ok (.invokevirtual 168, 3) := by decide +kernel
theorem dX6_hear_53 : decode cX6_hear 53 = .ok (.iload_n 3, 1) := by decide +kernel
theorem dX6_hear_54 : decode cX6_hear 54 = .ok (.ixor, 1) := by decide +kernel
theorem dX6_hear_55 : decode cX6_hear 55 = .ok (.invokevirtual 171, 3) := by decide +kernel
theorem dX6_hear_58 : decode cX6_hear 58 = .ok (.aload_n 0, 1) := by decide +kernel
theorem dX6_hear_59 : decode cX6_hear 59 = .ok (.getfield 22, 3) := by decide +kernel
theorem dX6_hear_62 : decode cX6_hear 62 = .ok (.iconst 3, 1) := by decide +kernel
theorem dX6_hear_63 : decode cX6_hear 63 = .ok (.iaload, 1) := by decide +kernel
theorem dX6_hear_64 : decode cX6_hear 64 = .ok (.ireturn, 1) := by decide +kernel
theorem dX6_group_0 : decode cX6_group 0 = .ok (.iload_n 2, 1) := by decide +kernel
theorem dX6_group_1 : decode cX6_group 1 = .ok (.i2l, 1) := by decide +kernel
theorem dX6_group_2 : decode cX6_group 2 = .ok (.lconst 1, 1) := by decide +kernel
theorem dX6_group_3 : decode cX6_group 3 = .ok (.ldc2_w 97, 3) := by decide +kernel
theorem dX6_group_6 : decode cX6_group 6 = .ok (.invokestatic 68, 3) := by decide +kernel
theorem dX6_group_9 : decode cX6_group 9 = .ok (.ifCond .ne 6, 3) := by decide +kernel
theorem dX6_group_12 : decode cX6_group 12 = .ok (.bipush (-2), 2) := by decide +kernel
theorem dX6_group_14 : decode cX6_group 14 = .ok (.ireturn, 1) := by decide +kernel
theorem dX6_group_15 : decode cX6_group 15 = .ok (.aload_n 0, 1) := by decide +kernel
theorem dX6_group_16 : decode cX6_group 16 = .ok (.invokevirtual 203, 3) := by decide +kernel
theorem dX6_group_19 : decode cX6_group 19 = .ok (.aload_n 0, 1) := by decide +kernel
theorem dX6_group_20 : decode cX6_group 20 = .ok (.getfield 22, 3) := by decide +kernel
theorem dX6_group_23 : decode cX6_group 23 = .ok (.bipush 10, 2) := by decide +kernel
theorem dX6_group_25 : decode cX6_group 25 = .ok (.iaload, 1) := by decide +kernel
theorem dX6_group_26 : decode cX6_group 26 = .ok (.aload_n 0, 1) := by decide +kernel
theorem dX6_group_27 : decode cX6_group 27 = .ok (.getfield 22, 3) := by decide +kernel
theorem dX6_group_30 : decode cX6_group 30 = .ok (.bipush 11, 2) := by decide +kernel
theorem dX6_group_32 : decode cX6_group 32 = .ok (.iaload, 1) := by decide +kernel
theorem dX6_group_33 : decode cX6_group 33 = .ok (.iadd, 1) := by decide +kernel
theorem dX6_group_34 : decode cX6_group 34 = .ok (.istore_n 3, 1) := by decide +kernel
theorem dX6_group_35 : decode cX6_group 35 = .ok (.iconst 0, 1) := by decide +kernel
theorem dX6_group_36 : decode cX6_group 36 = .ok (.istore 4, 2) := by decide +kernel
theorem dX6_group_38 : decode cX6_group 38 = .ok (.iload 4, 2) := by decide +kernel
theorem dX6_group_40 : decode cX6_group 40 = .ok (.iload_n 2, 1) := by decide +kernel
theorem dX6_group_41 : decode cX6_group 41 = .ok (.if_icmp .ge 19, 3) := by decide +kernel
theorem dX6_group_44 : decode cX6_group 44 = .ok (.aload_n 0, 1) := by decide +kernel
theorem dX6_group_45 : decode cX6_group 45 = .ok (.aload_n 0, 1) := by decide +kernel
theorem dX6_group_46 : decode cX6_group 46 = .ok (.getfield 22, 3) := by decide +kernel
theorem dX6_group_49 : decode cX6_group 49 = .ok (.iload_n 1, 1) := by decide +kernel
theorem dX6_group_50 : decode cX6_group 50 = .ok (.iconst 0, 1) := by decide +kernel
theorem dX6_group_51 : decode cX6_group 51 = .ok (.invokevirtual 206, 3) := by decide +kernel
theorem dX6_group_54 : decode cX6_group 54 = .ok (.iinc 4 1, 3) := by decide +kernel
theorem dX6_group_57 : decode cX6_group 57 = .ok (.goto (-19), 3) := by decide +kernel
theorem dX6_group_60 : decode cX6_group 60 = .ok (.aload_n 0, 1) := by decide +kernel
theorem dX6_group_61 : decode cX6_group 61 = .ok (.getfield 22, 3) := by decide +kernel
theorem dX6_group_64 : decode cX6_group 64 = .ok (.bipush 10, 2) := by decide +kernel
theorem dX6_group_66 : decode cX6_group 66 = .ok (.iaload, 1) := by decide +kernel
theorem dX6_group_67 : decode cX6_group 67 = .ok (.aload_n 0, 1) := by decide +kernel
theorem dX6_group_68 : decode cX6_group 68 = .ok (.getfield 22, 3) := by decide +kernel
theorem dX6_group_71 : decode cX6_group 71 = .ok (.bipush 11, 2) := by decide +kernel
theorem dX6_group_73 : decode cX6_group 73 = .ok (.iaload, 1) := by decide +kernel
theorem dX6_group_74 : decode cX6_group 74 = .ok (.iadd, 1) := by decide +kernel
theorem dX6_group_75 : decode cX6_group 75 = .ok (.iload_n 3, 1) := by decide +kernel
theorem dX6_group_76 : decode cX6_group 76 = .ok (.isub, 1) := by decide +kernel
theorem dX6_group_77 : decode cX6_group 77 = .ok (.ireturn, 1) := by decide +kernel
theorem dX6_resetOn_0 : decode cX6_resetOn 0 = .ok (.aload_n 0, 1) := by decide +kernel
theorem dX6_resetOn_1 : decode cX6_resetOn 1 = .ok (.iconst 3, 1) := by decide +kernel
theorem dX6_resetOn_2 : decode cX6_resetOn 2 = .ok (.iaload, 1) := by decide +kernel
theorem dX6_resetOn_3 : decode cX6_resetOn 3 = .ok (.iconst 1, 1) := by decide +kernel
theorem dX6_resetOn_4 : decode cX6_resetOn 4 = .ok (.if_icmp .ne 7, 3) := by decide +kernel
theorem dX6_resetOn_7 : decode cX6_resetOn 7 = .ok (.aload_n 0, 1) := by decide +kernel
theorem dX6_resetOn_8 : decode cX6_resetOn 8 = .ok (.invokestatic 153, 3) := by decide +kernel
theorem dX6_resetOn_11 : decode cX6_resetOn 11 = .ok (.aload_n 0, 1) := by decide +kernel
theorem dX6_resetOn_12 : decode cX6_resetOn 12 = .ok (.invokestatic 121, 3) := by decide +kernel
theorem dX6_resetOn_15 : decode cX6_resetOn 15 = .ok (.return_, 1) := by decide +kernel
theorem dX6_reset_0 : decode cX6_reset 0 = .ok (.aload_n 0, 1) := by decide +kernel
theorem dX6_reset_1 : decode cX6_reset 1 = .ok (.invokevirtual 203, 3) := by decide +kernel
theorem dX6_reset_4 : decode cX6_reset 4 = .ok (.aload_n 0, 1) := by decide +kernel
theorem dX6_reset_5 : decode cX6_reset 5 = .ok (.getfield 22, 3) := by decide +kernel
theorem dX6_reset_8 : decode cX6_reset 8 = .ok (.iconst 3, 1) := by decide +kernel
theorem dX6_reset_9 : decode cX6_reset 9 = .ok (.iaload, 1) := by decide +kernel
theorem dX6_reset_10 : decode cX6_reset 10 = .ok (.istore_n 1, 1) := by decide +kernel
theorem dX6_reset_11 : decode cX6_reset 11 = .ok (.aload_n 0, 1) := by decide +kernel
theorem dX6_reset_12 : decode cX6_reset 12 = .ok (.getfield 22, 3) := by decide +kernel
theorem dX6_reset_15 : decode cX6_reset 15 = .ok (.invokestatic 209, 3) := by decide +kernel
theorem dX6_reset_18 : decode cX6_reset 18 = .ok (.iload_n 1, 1) := by decide +kernel
theorem dX6_reset_19 : decode cX6_reset 19 = .ok (.ireturn, 1) := by decide +kernel
theorem dX6_undo_0 : decode cX6_undo 0 = .ok (.aload_n 0, 1) := by decide +kernel
theorem dX6_undo_1 : decode cX6_undo 1 = .ok (.getfield 118, 3) := by decide +kernel
theorem dX6_undo_4 : decode cX6_undo 4 = .ok (.ifCond .ne 6, 3) := by decide +kernel
theorem dX6_undo_7 : decode cX6_undo 7 = .ok (.bipush (-3), 2) := by decide +kernel
theorem dX6_undo_9 : decode cX6_undo 9 = .ok (.ireturn, 1) := by decide +kernel
theorem dX6_undo_10 : decode cX6_undo 10 = .ok (.aload_n 0, 1) := by decide +kernel
theorem dX6_undo_11 : decode cX6_undo 11 = .ok (.dup, 1) := by decide +kernel
theorem dX6_undo_12 : decode cX6_undo 12 = .ok (.getfield 118, 3) := by decide +kernel
theorem dX6_undo_15 : decode cX6_undo 15 = .ok (.iconst 1, 1) := by decide +kernel
theorem dX6_undo_16 : decode cX6_undo 16 = .ok (.isub, 1) := by decide +kernel
theorem dX6_undo_17 : decode cX6_undo 17 = .ok (.putfield 118, 3) := by decide +kernel
theorem dX6_undo_20 : decode cX6_undo 20 = .ok (.aload_n 0, 1) := by decide +kernel
theorem dX6_undo_21 : decode cX6_undo 21 = .ok (.aload_n 0, 1) := by decide +kernel
theorem dX6_undo_22 : decode cX6_undo 22 = .ok (.getfield 198, 3) := by decide +kernel
theorem dX6_undo_25 : decode cX6_undo 25 = .ok (.bipush 14, 2) := by decide +kernel
theorem dX6_undo_27 : decode cX6_undo 27 = .ok (.iadd, 1) := by decide +kernel
theorem dX6_undo_28 : decode cX6_undo 28 = .ok (.iconst 1, 1) := by decide +kernel
theorem dX6_undo_29 : decode cX6_undo 29 = .ok (.isub, 1) := by decide +kernel
theorem dX6_undo_30 : decode cX6_undo 30 = .ok (.bipush 14, 2) := by decide +kernel
theorem dX6_undo_32 : decode cX6_undo 32 = .ok (.irem, 1) := by decide +kernel
theorem dX6_undo_33 : decode cX6_undo 33 = .ok (.putfield 198, 3) := by decide +kernel
theorem dX6_undo_36 : decode cX6_undo 36 = .ok (.iconst 0, 1) := by decide +kernel
theorem dX6_undo_37 : decode cX6_undo 37 = .ok (.istore_n 1, 1) := by decide +kernel
theorem dX6_undo_38 : decode cX6_undo 38 = .ok (.iload_n 1, 1) := by decide +kernel
theorem dX6_undo_39 : decode cX6_undo 39 = .ok (.bipush 47, 2) := by decide +kernel
theorem dX6_undo_41 : decode cX6_undo 41 = .ok (.if_icmp .ge 29, 3) := by decide +kernel
theorem dX6_undo_44 : decode cX6_undo 44 = .ok (.aload_n 0, 1) := by decide +kernel
theorem dX6_undo_45 : decode cX6_undo 45 = .ok (.getfield 22, 3) := by decide +kernel
theorem dX6_undo_48 : decode cX6_undo 48 = .ok (.iload_n 1, 1) := by decide +kernel
theorem dX6_undo_49 : decode cX6_undo 49 = .ok (.aload_n 0, 1) := by decide +kernel
theorem dX6_undo_50 : decode cX6_undo 50 = .ok (.getfield 28, 3) := by decide +kernel
theorem dX6_undo_53 : decode cX6_undo 53 = .ok (.bipush 47, 2) := by decide +kernel
theorem dX6_undo_55 : decode cX6_undo 55 = .ok (.aload_n 0, 1) := by decide +kernel
theorem dX6_undo_56 : decode cX6_undo 56 = .ok (.getfield 198, 3) := by decide +kernel
theorem dX6_undo_59 : decode cX6_undo 59 = .ok (.imul, 1) := by decide +kernel
theorem dX6_undo_60 : decode cX6_undo 60 = .ok (.iload_n 1, 1) := by decide +kernel
theorem dX6_undo_61 : decode cX6_undo 61 = .ok (.iadd, 1) := by decide +kernel
theorem dX6_undo_62 : decode cX6_undo 62 = .ok (.iaload, 1) := by decide +kernel
theorem dX6_undo_63 : decode cX6_undo 63 = .ok (.iastore, 1) := by decide +kernel
theorem dX6_undo_64 : decode cX6_undo 64 = .ok (.iinc 1 1, 3) := by decide +kernel
theorem dX6_undo_67 : decode cX6_undo 67 = .ok (.goto (-29), 3) := by decide +kernel
theorem dX6_undo_70 : decode cX6_undo 70 = .ok (.aload_n 0, 1) := by decide +kernel
theorem dX6_undo_71 : decode cX6_undo 71 = .ok (.getfield 118, 3) := by decide +kernel
theorem dX6_undo_74 : decode cX6_undo 74 = .ok (.ireturn, 1) := by decide +kernel
theorem dX6_ahead_0 : decode cX6_ahead 0 = .ok (.iload_n 2, 1) := by decide +kernel
theorem dX6_ahead_1 : decode cX6_ahead 1 = .ok (.i2l, 1) := by decide +kernel
theorem dX6_ahead_2 : decode cX6_ahead 2 = .ok (.lconst 0, 1) := by decide +kernel
theorem dX6_ahead_3 : decode cX6_ahead 3 = .ok (.ldc2_w 97, 3) := by decide +kernel
theorem dX6_ahead_6 : decode cX6_ahead 6 = .ok (.invokestatic 68, 3) := by decide +kernel
theorem dX6_ahead_9 : decode cX6_ahead 9 = .ok (.ifCond .eq 17, 3) := by decide +kernel
theorem dX6_ahead_12 : decode cX6_ahead 12 = .ok (.iload_n 3, 1) := by decide +kernel
theorem dX6_ahead_13 : decode cX6_ahead 13 = .ok (.i2l, 1) := by decide +kernel
theorem dX6_ahead_14 : decode cX6_ahead 14 = .ok (.ldc2_w 66, 3) := by decide +kernel
theorem dX6_ahead_17 : decode cX6_ahead 17 = .ok (.ldc2_w 177, 3) := by decide +kernel
theorem dX6_ahead_20 : decode cX6_ahead 20 = .ok (.invokestatic 68, 3) := by decide +kernel
theorem dX6_ahead_23 : decode cX6_ahead 23 = .ok (.ifCond .ne 6, 3) := by decide +kernel
theorem dX6_ahead_26 : decode cX6_ahead 26 = .ok (.bipush (-2), 2) := by decide +kernel
theorem dX6_ahead_28 : decode cX6_ahead 28 = .ok (.ireturn, 1) := by decide +kernel
theorem dX6_ahead_29 : decode cX6_ahead 29 = .ok (.aload_n 0, 1) := by decide +kernel
theorem dX6_ahead_30 : decode cX6_ahead 30 = .ok (.getfield 22, 3) := by decide +kernel
theorem dX6_ahead_33 : decode cX6_ahead 33 = .ok (.aload_n 0, 1) := by decide +kernel
theorem dX6_ahead_34 : decode cX6_ahead 34 = .ok (.getfield 25, 3) := by decide +kernel
theorem dX6_ahead_37 : decode cX6_ahead 37 = .ok (.invokestatic 212, 3) := by decide +kernel
theorem dX6_ahead_40 : decode cX6_ahead 40 = .ok (.iconst 0, 1) := by decide +kernel
theorem dX6_ahead_41 : decode cX6_ahead 41 = .ok (.istore 4, 2) := by decide +kernel
theorem dX6_ahead_43 : decode cX6_ahead 43 = .ok (.iload 4, 2) := by decide +kernel
theorem dX6_ahead_45 : decode cX6_ahead 45 = .ok (.iload_n 2, 1) := by decide +kernel
theorem dX6_ahead_46 : decode cX6_ahead 46 = .ok (.if_icmp .ge 19, 3) := by decide +kernel
theorem dX6_ahead_49 : decode cX6_ahead 49 = .ok (.aload_n 0, 1) := by decide +kernel
theorem dX6_ahead_50 : decode cX6_ahead 50 = .ok (.aload_n 0, 1) := by decide +kernel
theorem dX6_ahead_51 : decode cX6_ahead 51 = .ok (.getfield 25, 3) := by decide +kernel
theorem dX6_ahead_54 : decode cX6_ahead 54 = .ok (.iload_n 1, 1) := by decide +kernel
theorem dX6_ahead_55 : decode cX6_ahead 55 = .ok (.iconst 0, 1) := by decide +kernel
theorem dX6_ahead_56 : decode cX6_ahead 56 = .ok (.invokevirtual 206, 3) := by decide +kernel
theorem dX6_ahead_59 : decode cX6_ahead 59 = .ok (.iinc 4 1, 3) := by decide +kernel
theorem dX6_ahead_62 : decode cX6_ahead 62 = .ok (.goto (-19), 3) := by decide +kernel
theorem dX6_ahead_65 : decode cX6_ahead 65 = .ok (.aload_n 0, 1) := by decide +kernel
theorem dX6_ahead_66 : decode cX6_ahead 66 = .ok (.aload_n 0, 1) := by decide +kernel
theorem dX6_ahead_67 : decode cX6_ahead 67 = .ok (.getfield 25, 3) := by decide +kernel
theorem dX6_ahead_70 : decode cX6_ahead 70 = .ok (.iload_n 3, 1) := by decide +kernel
theorem dX6_ahead_71 : decode cX6_ahead 71 = .ok (.invokevirtual 179, 3) := by decide +kernel
theorem dX6_ahead_74 : decode cX6_ahead 74 = .ok (.ireturn, 1) := by decide +kernel
theorem dX6_needs_0 : decode cX6_needs 0 = .ok (.aload_n 0, 1) := by decide +kernel
theorem dX6_needs_1 : decode cX6_needs 1 = .ok (.getfield 22, 3) := by decide +kernel
theorem dX6_needs_4 : decode cX6_needs 4 = .ok (.aload_n 0, 1) := by decide +kernel
theorem dX6_needs_5 : decode cX6_needs 5 = .ok (.getfield 25, 3) := by decide +kernel
theorem dX6_needs_8 : decode cX6_needs 8 = .ok (.invokestatic 212, 3) := by decide +kernel
theorem dX6_needs_11 : decode cX6_needs 11 = .ok (.iconst 0, 1) := by decide +kernel
theorem dX6_needs_12 : decode cX6_needs 12 = .ok (.istore_n 2, 1) := by decide +kernel
theorem dX6_needs_13 : decode cX6_needs 13 = .ok (.iload_n 2, 1) := by decide +kernel
theorem dX6_needs_14 : decode cX6_needs 14 = .ok (.bipush 10, 2) := by decide +kernel
theorem dX6_needs_16 : decode cX6_needs 16 = .ok (.if_icmp .ge 31, 3) := by decide +kernel
theorem dX6_needs_19 : decode cX6_needs 19 = .ok (.aload_n 0, 1) := by decide +kernel
theorem dX6_needs_20 : decode cX6_needs 20 = .ok (.getfield 25, 3) := by decide +kernel
theorem dX6_needs_23 : decode cX6_needs 23 = .ok (.iconst 3, 1) := by decide +kernel
theorem dX6_needs_24 : decode cX6_needs 24 = .ok (.iaload, 1) := by decide +kernel
theorem dX6_needs_25 : decode cX6_needs 25 = .ok (.iconst 1, 1) := by decide +kernel
theorem dX6_needs_26 : decode cX6_needs 26 = .ok (.if_icmp .ne 5, 3) := by decide +kernel
theorem dX6_needs_29 : decode cX6_needs 29 = .ok (.iload_n 2, 1) := by decide +kernel
theorem dX6_needs_30 : decode cX6_needs 30 = .ok (.ireturn, 1) := by decide +kernel
theorem dX6_needs_31 : decode cX6_needs 31 = .ok (.aload_n 0, 1) := by decide +kernel
theorem dX6_needs_32 : decode cX6_needs 32 = .ok (.aload_n 0, 1) := by decide +kernel
theorem dX6_needs_33 : decode cX6_needs 33 = .ok (.getfield 25, 3) := by decide +kernel
theorem dX6_needs_36 : decode cX6_needs 36 = .ok (.iload_n 1, 1) := by decide +kernel
theorem dX6_needs_37 : decode cX6_needs 37 = .ok (.iconst 0, 1) := by decide +kernel
theorem dX6_needs_38 : decode cX6_needs 38 = .ok (.invokevirtual 206, 3) := by decide +kernel
theorem dX6_needs_41 : decode cX6_needs 41 = .ok (.iinc 2 1, 3) := by decide +kernel
theorem dX6_needs_44 : decode cX6_needs 44 = .ok (.goto (-31), 3) := by decide +kernel
theorem dX6_needs_47 : decode cX6_needs 47 = .ok (.bipush (-9), 2) := by decide +kernel
theorem dX6_needs_49 : decode cX6_needs 49 = .ok (.ireturn, 1) := by decide +kernel
theorem dX6_judged_0 : decode cX6_judged 0 = .ok (.iload_n 1, 1) := by decide +kernel
theorem dX6_judged_1 : decode cX6_judged 1 = .ok (.tableswitch 234 1 6 #[39, 73, 102, 127, 187, 213], 39) := by decide +kernel
theorem dX6_judged_40 : decode cX6_judged 40 = .ok (.iload_n 2, 1) := by decide +kernel
theorem dX6_judged_41 : decode cX6_judged 41 = .ok (.invokestatic 183, 3) := by decide +kernel
theorem dX6_judged_44 : decode cX6_judged 44 = .ok (.ifCond .eq 10, 3) := by decide +kernel
theorem dX6_judged_47 : decode cX6_judged 47 = .ok (.iload_n 3, 1) := by decide +kernel
theorem dX6_judged_48 : decode cX6_judged 48 = .ok (.sipush 255, 3) := by decide +kernel
theorem dX6_judged_51 : decode cX6_judged 51 = .ok (.if_icmp .le 5, 3) := by decide +kernel
theorem dX6_judged_54 : decode cX6_judged 54 = .ok (.iconst 0, 1) := by decide +kernel
theorem dX6_judged_55 : decode cX6_judged 55 = .ok (.ireturn, 1) := by decide +kernel
theorem dX6_judged_56 : decode cX6_judged 56 = .ok (.aload_n 0, 1) := by decide +kernel
theorem dX6_judged_57 : decode cX6_judged 57 = .ok (.aload_n 0, 1) := by decide +kernel
theorem dX6_judged_58 : decode cX6_judged 58 = .ok (.getfield 25, 3) := by decide +kernel
theorem dX6_judged_61 : decode cX6_judged 61 = .ok (.bipush 14, 2) := by decide +kernel
theorem dX6_judged_63 : decode cX6_judged 63 = .ok (.aload_n 0, 1) := by decide +kernel
theorem dX6_judged_64 : decode cX6_judged 64 = .ok (.iload_n 2, 1) := by decide +kernel
theorem dX6_judged_65 : decode cX6_judged 65 = .ok (.iload_n 3, 1) := by decide +kernel
theorem dX6_judged_66 : decode cX6_judged 66 = .ok (.invokevirtual 168, 3) := by decide +kernel
theorem dX6_judged_69 : decode cX6_judged 69 = .ok (.invokevirtual 171, 3) := by decide +kernel
theorem dX6_judged_72 : decode cX6_judged 72 = .ok (.iconst 1, 1) := by decide +kernel
theorem dX6_judged_73 : decode cX6_judged 73 = .ok (.ireturn, 1) := by decide +kernel
theorem dX6_judged_74 : decode cX6_judged 74 = .ok (.iload_n 2, 1) := by decide +kernel
theorem dX6_judged_75 : decode cX6_judged 75 = .ok (.ifCond .ne 14, 3) := by decide +kernel
theorem dX6_judged_78 : decode cX6_judged 78 = .ok (.iload_n 3, 1) := by decide +kernel
theorem dX6_judged_79 : decode cX6_judged 79 = .ok (.ifCond .ne 10, 3) := by decide +kernel
theorem dX6_judged_82 : decode cX6_judged 82 = .ok (.aload_n 0, 1) := by decide +kernel
theorem dX6_judged_83 : decode cX6_judged 83 = .ok (.getfield 25, 3) := by decide +kernel
theorem dX6_judged_86 : decode cX6_judged 86 = .ok (.invokestatic 209, 3) := by decide +kernel
theorem dX6_judged_89 : decode cX6_judged 89 = .ok (.iload_n 2, 1) := by decide +kernel
theorem dX6_judged_90 : decode cX6_judged 90 = .ok (.ifCond .ne 11, 3) := by decide +kernel
theorem dX6_judged_93 : decode cX6_judged 93 = .ok (.iload_n 3, 1) := by decide +kernel
theorem dX6_judged_94 : decode cX6_judged 94 = .ok (.ifCond .ne 7, 3) := by decide +kernel
theorem dX6_judged_97 : decode cX6_judged 97 = .ok (.iconst 1, 1) := by decide +kernel
theorem dX6_judged_98 : decode cX6_judged 98 = .ok (.goto 4, 3) := by decide +kernel
theorem dX6_judged_101 : decode cX6_judged 101 = .ok (.iconst 0, 1) := by decide +kernel
theorem dX6_judged_102 : decode cX6_judged 102 = .ok (.ireturn, 1) := by decide +kernel
theorem dX6_judged_103 : decode cX6_judged 103 = .ok (.iload_n 3, 1) := by decide +kernel
theorem dX6_judged_104 : decode cX6_judged 104 = .ok (.ifCond .ne 22, 3) := by decide +kernel
theorem dX6_judged_107 : decode cX6_judged 107 = .ok (.iload_n 2, 1) := by decide +kernel
theorem dX6_judged_108 : decode cX6_judged 108 = .ok (.iconst 2, 1) := by decide +kernel
theorem dX6_judged_109 : decode cX6_judged 109 = .ok (.if_icmp .ge 17, 3) := by decide +kernel
theorem dX6_judged_112 : decode cX6_judged 112 = .ok (.aload_n 0, 1) := by decide +kernel
theorem dX6_judged_113 : decode cX6_judged 113 = .ok (.getfield 25, 3) := by decide +kernel
theorem dX6_judged_116 : decode cX6_judged 116 = .ok (.iconst 3, 1) := by decide +kernel
theorem dX6_judged_117 : decode cX6_judged 117 = .ok (.iaload, 1) := by decide +kernel
theorem dX6_judged_118 : decode cX6_judged 118 = .ok (.iload_n 2, 1) := by decide +kernel
theorem dX6_judged_119 : decode cX6_judged 119 = .ok (.if_icmp .ne 7, 3) := by decide +kernel
theorem dX6_judged_122 : decode cX6_judged 122 = .ok (.iconst 1, 1) := by decide +kernel
theorem dX6_judged_123 : decode cX6_judged 123 = .ok (.goto 4, 3) := by decide +kernel
theorem dX6_judged_126 : decode cX6_judged 126 = .ok (.iconst 0, 1) := by decide +kernel
theorem dX6_judged_127 : decode cX6_judged 127 = .ok (.ireturn, 1) := by decide +kernel
theorem dX6_judged_128 : decode cX6_judged 128 = .ok (.iload_n 2, 1) := by decide +kernel
theorem dX6_judged_129 : decode cX6_judged 129 = .ok (.invokestatic 183, 3) := by decide +kernel
theorem dX6_judged_132 : decode cX6_judged 132 = .ok (.ifCond .eq 54, 3) := by decide +kernel
theorem dX6_judged_135 : decode cX6_judged 135 = .ok (.iload_n 3, 1) := by decide +kernel
theorem dX6_judged_136 : decode cX6_judged 136 = .ok (.bipush 100, 2) := by decide +kernel
theorem dX6_judged_138 : decode cX6_judged 138 = .ok (.irem, 1) := by decide +kernel
theorem dX6_judged_139 : decode cX6_judged 139 = .ok (.ifCond .ne 47, 3) := by decide +kernel
theorem dX6_judged_142 : decode cX6_judged 142 = .ok (.iload_n 3, 1) := by decide +kernel
theorem dX6_judged_143 : decode cX6_judged 143 = .ok (.sipush 200, 3) := by decide +kernel
theorem dX6_judged_146 : decode cX6_judged 146 = .ok (.if_icmp .ge 40, 3) := by decide +kernel
theorem dX6_judged_149 : decode cX6_judged 149 = .ok (.aload_n 0, 1) := by decide +kernel
theorem dX6_judged_150 : decode cX6_judged 150 = .ok (.getfield 25, 3) := by decide +kernel
theorem dX6_judged_153 : decode cX6_judged 153 = .ok (.bipush 22, 2) := by decide +kernel
theorem dX6_judged_155 : decode cX6_judged 155 = .ok (.iload_n 2, 1) := by decide +kernel
theorem dX6_judged_156 : decode cX6_judged 156 = .ok (.iadd, 1) := by decide +kernel
theorem dX6_judged_157 : decode cX6_judged 157 = .ok (.iaload, 1) := by decide +kernel
theorem dX6_judged_158 : decode cX6_judged 158 = .ok (.bipush (-9), 2) := by decide +kernel
theorem dX6_judged_160 : decode cX6_judged 160 = .ok (.if_icmp .eq 7, 3) := by decide +kernel
theorem dX6_judged_163 : decode cX6_judged 163 = .ok (.iconst 1, 1) := by decide +kernel
theorem dX6_judged_164 : decode cX6_judged 164 = .ok (.goto 4, 3) := by decide +kernel
theorem dX6_judged_167 : decode cX6_judged 167 = .ok (.iconst 0, 1) := by decide +kernel
theorem dX6_judged_168 : decode cX6_judged 168 = .ok (.iload_n 3, 1) := by decide +kernel
theorem dX6_judged_169 : decode cX6_judged 169 = .ok (.bipush 100, 2) := by decide +kernel
theorem dX6_judged_171 : decode cX6_judged 171 = .ok (.if_icmp .ne 7, 3) := by decide +kernel
theorem dX6_judged_174 : decode cX6_judged 174 = .ok (.iconst 1, 1) := by decide +kernel
theorem dX6_judged_175 : decode cX6_judged 175 = .ok (.goto 4, 3) := by decide +kernel
theorem dX6_judged_178 : decode cX6_judged 178 = .ok (.iconst 0, 1) := by decide +kernel
theorem dX6_judged_179 : decode cX6_judged 179 = .ok (.if_icmp .ne 7, 3) := by decide +kernel
theorem dX6_judged_182 : decode cX6_judged 182 = .ok (.iconst 1, 1) := by decide +kernel
theorem dX6_judged_183 : decode cX6_judged 183 = .ok (.goto 4, 3) := by decide +kernel
theorem dX6_judged_186 : decode cX6_judged 186 = .ok (.iconst 0, 1) := by decide +kernel
theorem dX6_judged_187 : decode cX6_judged 187 = .ok (.ireturn, 1) := by decide +kernel
theorem dX6_judged_188 : decode cX6_judged 188 = .ok (.iload_n 2, 1) := by decide +kernel
theorem dX6_judged_189 : decode cX6_judged 189 = .ok (.invokestatic 183, 3) := by decide +kernel
theorem dX6_judged_192 : decode cX6_judged 192 = .ok (.ifCond .eq 20, 3) := by decide +kernel
theorem dX6_judged_195 : decode cX6_judged 195 = .ok (.aload_n 0, 1) := by decide +kernel
theorem dX6_judged_196 : decode cX6_judged 196 = .ok (.getfield 25, 3) := by decide +kernel
theorem dX6_judged_199 : decode cX6_judged 199 = .ok (.bipush 18, 2) := by decide +kernel
theorem dX6_judged_201 : decode cX6_judged 201 = .ok (.iload_n 2, 1) := by decide +kernel
theorem dX6_judged_202 : decode cX6_judged 202 = .ok (.iadd, 1) := by decide +kernel
theorem dX6_judged_203 : decode cX6_judged 203 = .ok (.iaload, 1) := by decide +kernel
theorem dX6_judged_204 : decode cX6_judged 204 = .ok (.iload_n 3, 1) := by decide +kernel
theorem dX6_judged_205 : decode cX6_judged 205 = .ok (.if_icmp .ne 7, 3) := by decide +kernel
theorem dX6_judged_208 : decode cX6_judged 208 = .ok (.iconst 1, 1) := by decide +kernel
theorem dX6_judged_209 : decode cX6_judged 209 = .ok (.goto 4, 3) := by decide +kernel
theorem dX6_judged_212 : decode cX6_judged 212 = .ok (.iconst 0, 1) := by decide +kernel
theorem dX6_judged_213 : decode cX6_judged 213 = .ok (.ireturn, 1) := by decide +kernel
theorem dX6_judged_214 : decode cX6_judged 214 = .ok (.iload_n 2, 1) := by decide +kernel
theorem dX6_judged_215 : decode cX6_judged 215 = .ok (.ifCond .ne 18, 3) := by decide +kernel
theorem dX6_judged_218 : decode cX6_judged 218 = .ok (.aload_n 0, 1) := by decide +kernel
theorem dX6_judged_219 : decode cX6_judged 219 = .ok (.getfield 25, 3) := by decide +kernel
theorem dX6_judged_222 : decode cX6_judged 222 = .ok (.bipush 14, 2) := by decide +kernel
theorem dX6_judged_224 : decode cX6_judged 224 = .ok (.iaload, 1) := by decide +kernel
theorem dX6_judged_225 : decode cX6_judged 225 = .ok (.iload_n 3, 1) := by decide +kernel
theorem dX6_judged_226 : decode cX6_judged 226 = .ok (.if_icmp .ne 7, 3) := by decide +kernel
theorem dX6_judged_229 : decode cX6_judged 229 = .ok (.iconst 1, 1) := by decide +kernel
theorem dX6_judged_230 : decode cX6_judged 230 = .ok (.goto 4, 3) := by decide +kernel
theorem dX6_judged_233 : decode cX6_judged 233 = .ok (.iconst 0, 1) := by decide +kernel
theorem dX6_judged_234 : decode cX6_judged 234 = .ok (.ireturn, 1) := by decide +kernel
theorem dX6_judged_235 : decode cX6_judged 235 = .ok (.iconst 0, 1) := by decide +kernel
theorem dX6_judged_236 : decode cX6_judged 236 = .ok (.ireturn, 1) := by decide +kernel
theorem dX6_hundredThousands_0 : decode cX6_hundredThousands 0 = .ok (.lconst 1, 1) := by decide +kernel
theorem dX6_hundredThousands_1 : decode cX6_hundredThousands 1 = .ok (.lstore_n 1, 1) := by decide +kernel
theorem dX6_hundredThousands_2 : decode cX6_hundredThousands 2 = .ok (.iconst 0, 1) := by decide +kernel
theorem dX6_hundredThousands_3 : decode cX6_hundredThousands 3 = .ok (.istore_n 3, 1) := by decide +kernel
theorem dX6_hundredThousands_4 : decode cX6_hundredThousands 4 = .ok (.iload_n 3, 1) := by decide +kernel
theorem dX6_hundredThousands_5 : decode cX6_hundredThousands 5 = .ok (.iload_n 0, 1) := by decide +kernel
theorem dX6_hundredThousands_6 : decode cX6_hundredThousands 6 = .ok (.if_icmp .ge 15, 3) := by decide +kernel
theorem dX6_hundredThousands_9 : decode cX6_hundredThousands 9 = .ok (.lload_n 1, 1) := by decide +kernel
theorem dX6_hundredThousands_10 : decode cX6_hundredThousands 10 = .ok (.ldc2_w 216, 3) := by decide +kernel
theorem dX6_hundredThousands_13 : decode cX6_hundredThousands 13 = .ok (.lmul, 1) := by decide +kernel
theorem dX6_hundredThousands_14 : decode cX6_hundredThousands 14 = .ok (.lstore_n 1, 1) := by decide +kernel
theorem dX6_hundredThousands_15 : decode cX6_hundredThousands 15 = .ok (.iinc 3 1, 3) := by decide +kernel
theorem dX6_hundredThousands_18 : decode cX6_hundredThousands 18 = .ok (.goto (-14), 3) := by decide +kernel
theorem dX6_hundredThousands_21 : decode cX6_hundredThousands 21 = .ok (.lload_n 1, 1) := by decide +kernel
theorem dX6_hundredThousands_22 : decode cX6_hundredThousands 22 = .ok (.lreturn, 1) := by decide +kernel
theorem dX6_judge_0 : decode cX6_judge 0 = .ok (.iload_n 1, 1) := by decide +kernel
theorem dX6_judge_1 : decode cX6_judge 1 = .ok (.i2l, 1) := by decide +kernel
theorem dX6_judge_2 : decode cX6_judge 2 = .ok (.lconst 1, 1) := by decide +kernel
theorem dX6_judge_3 : decode cX6_judge 3 = .ok (.ldc2_w 66, 3) := by decide +kernel
theorem dX6_judge_6 : decode cX6_judge 6 = .ok (.invokestatic 68, 3) := by decide +kernel
theorem dX6_judge_9 : decode cX6_judge 9 = .ok (.ifCond .eq 17, 3) := by decide +kernel
theorem dX6_judge_12 : decode cX6_judge 12 = .ok (.lload_n 2, 1) := by decide +kernel
theorem dX6_judge_13 : decode cX6_judge 13 = .ok (.lconst 0, 1) := by decide +kernel
theorem dX6_judge_14 : decode cX6_judge 14 = .ok (.iload_n 1, 1) := by decide +kernel
theorem dX6_judge_15 : decode cX6_judge 15 = .ok (.invokestatic 218, 3) := by decide +kernel
theorem dX6_judge_18 : decode cX6_judge 18 = .ok (.lconst 1, 1) := by decide +kernel
theorem dX6_judge_19 : decode cX6_judge 19 = .ok (.lsub, 1) := by decide +kernel
theorem dX6_judge_20 : decode cX6_judge 20 = .ok (.invokestatic 68, 3) := by decide +kernel
theorem dX6_judge_23 : decode cX6_judge 23 = .ok (.ifCond .ne 6, 3) := by decide +kernel
theorem dX6_judge_26 : decode cX6_judge 26 = .ok (.bipush (-2), 2) := by decide +kernel
theorem dX6_judge_28 : decode cX6_judge 28 = .ok (.ireturn, 1) := by decide +kernel
theorem dX6_judge_29 : decode cX6_judge 29 = .ok (.aload_n 0, 1) := by decide +kernel
theorem dX6_judge_30 : decode cX6_judge 30 = .ok (.getfield 22, 3) := by decide +kernel
theorem dX6_judge_33 : decode cX6_judge 33 = .ok (.aload_n 0, 1) := by decide +kernel
theorem dX6_judge_34 : decode cX6_judge 34 = .ok (.getfield 25, 3) := by decide +kernel
theorem dX6_judge_37 : decode cX6_judge 37 = .ok (.invokestatic 212, 3) := by decide +kernel
theorem dX6_judge_40 : decode cX6_judge 40 = .ok (.iconst 0, 1) := by decide +kernel
theorem dX6_judge_41 : decode cX6_judge 41 = .ok (.istore 4, 2) := by decide +kernel
theorem dX6_judge_43 : decode cX6_judge 43 = .ok (.iload 4, 2) := by decide +kernel
theorem dX6_judge_45 : decode cX6_judge 45 = .ok (.iload_n 1, 1) := by decide +kernel
theorem dX6_judge_46 : decode cX6_judge 46 = .ok (.if_icmp .ge 58, 3) := by decide +kernel
theorem dX6_judge_49 : decode cX6_judge 49 = .ok (.lload_n 2, 1) := by decide +kernel
theorem dX6_judge_50 : decode cX6_judge 50 = .ok (.iload_n 1, 1) := by decide +kernel
theorem dX6_judge_51 : decode cX6_judge 51 = .ok (.iconst 1, 1) := by decide +kernel
theorem dX6_judge_52 : decode cX6_judge 52 = .ok (.isub, 1) := by decide +kernel
theorem dX6_judge_53 : decode cX6_judge 53 = .ok (.iload 4, 2) := by decide +kernel
theorem dX6_judge_55 : decode cX6_judge 55 = .ok (.isub, 1) := by decide +kernel
theorem dX6_judge_56 : decode cX6_judge 56 = .ok (.invokestatic 218, 3) := by decide +kernel
theorem dX6_judge_59 : decode cX6_judge 59 = .ok (.ldiv, 1) := by decide +kernel
theorem dX6_judge_60 : decode cX6_judge 60 = .ok (.ldc2_w 216, 3) := by decide +kernel
theorem dX6_judge_63 : decode cX6_judge 63 = .ok (.lrem, 1) := by decide +kernel
theorem dX6_judge_64 : decode cX6_judge 64 = .ok (.l2i, 1) := by decide +kernel
theorem dX6_judge_65 : decode cX6_judge 65 = .ok (.istore 5, 2) := by decide +kernel
theorem dX6_judge_67 : decode cX6_judge 67 = .ok (.aload_n 0, 1) := by decide +kernel
theorem dX6_judge_68 : decode cX6_judge 68 = .ok (.iload 5, 2) := by decide +kernel
theorem dX6_judge_70 : decode cX6_judge 70 = .ok (.sipush 10000, 3) := by decide +kernel
theorem dX6_judge_73 : decode cX6_judge 73 = .ok (.idiv, 1) := by decide +kernel
theorem dX6_judge_74 : decode cX6_judge 74 = .ok (.iload 5, 2) := by decide +kernel
theorem dX6_judge_76 : decode cX6_judge 76 = .ok (.sipush 1000, 3) := by decide +kernel
theorem dX6_judge_79 : decode cX6_judge 79 = .ok (.idiv, 1) := by decide +kernel
theorem dX6_judge_80 : decode cX6_judge 80 = .ok (.bipush 10, 2) := by decide +kernel
theorem dX6_judge_82 : decode cX6_judge 82 = .ok (.irem, 1) := by decide +kernel
theorem dX6_judge_83 : decode cX6_judge 83 = .ok (.iload 5, 2) := by decide +kernel
theorem dX6_judge_85 : decode cX6_judge 85 = .ok (.sipush 1000, 3) := by decide +kernel
theorem dX6_judge_88 : decode cX6_judge 88 = .ok (.irem, 1) := by decide +kernel
theorem dX6_judge_89 : decode cX6_judge 89 = .ok (.invokevirtual 222, 3) := by decide +kernel
theorem dX6_judge_92 : decode cX6_judge 92 = .ok (.ifCond .ne 6, 3) := by decide +kernel
theorem dX6_judge_95 : decode cX6_judge 95 = .ok (.iload 4, 2) := by decide +kernel
theorem dX6_judge_97 : decode cX6_judge 97 = .ok (.ireturn, 1) := by decide +kernel
theorem dX6_judge_98 : decode cX6_judge 98 = .ok (.iinc 4 1, 3) := by decide +kernel
theorem dX6_judge_101 : decode cX6_judge 101 = .ok (.goto (-58), 3) := by decide +kernel
theorem dX6_judge_104 : decode cX6_judge 104 = .ok (.bipush (-9), 2) := by decide +kernel
theorem dX6_judge_106 : decode cX6_judge 106 = .ok (.ireturn, 1) := by decide +kernel
theorem dX6_see_0 : decode cX6_see 0 = .ok (.iload_n 2, 1) := by decide +kernel
theorem dX6_see_1 : decode cX6_see 1 = .ok (.i2l, 1) := by decide +kernel
theorem dX6_see_2 : decode cX6_see 2 = .ok (.lconst 0, 1) := by decide +kernel
theorem dX6_see_3 : decode cX6_see 3 = .ok (.ldc2_w 226, 3) := by decide +kernel
theorem dX6_see_6 : decode cX6_see 6 = .ok (.invokestatic 68, 3) := by decide +kernel
theorem dX6_see_9 : decode cX6_see 9 = .ok (.ifCond .eq 15, 3) := by decide +kernel
theorem dX6_see_12 : decode cX6_see 12 = .ok (.iload_n 3, 1) := by decide +kernel
theorem dX6_see_13 : decode cX6_see 13 = .ok (.i2l, 1) := by decide +kernel
theorem dX6_see_14 : decode cX6_see 14 = .ok (.lconst 0, 1) := by decide +kernel
theorem dX6_see_15 : decode cX6_see 15 = .ok (.ldc2_w 97, 3) := by decide +kernel
theorem dX6_see_18 : decode cX6_see 18 = .ok (.invokestatic 68, 3) := by decide +kernel
theorem dX6_see_21 : decode cX6_see 21 = .ok (.ifCond .ne 6, 3) := by decide +kernel
theorem dX6_see_24 : decode cX6_see 24 = .ok (.bipush (-2), 2) := by decide +kernel
theorem dX6_see_26 : decode cX6_see 26 = .ok (.ireturn, 1) := by decide +kernel
theorem dX6_see_27 : decode cX6_see 27 = .ok (.aload_n 0, 1) := by decide +kernel
theorem dX6_see_28 : decode cX6_see 28 = .ok (.getfield 174, 3) := by decide +kernel
theorem dX6_see_31 : decode cX6_see 31 = .ok (.iconst 4, 1) := by decide +kernel
theorem dX6_see_32 : decode cX6_see 32 = .ok (.if_icmp .ne 6, 3) := by decide +kernel
theorem dX6_see_35 : decode cX6_see 35 = .ok (.bipush (-4), 2) := by decide +kernel
theorem dX6_see_37 : decode cX6_see 37 = .ok (.ireturn, 1) := by decide +kernel
theorem dX6_see_38 : decode cX6_see 38 = .ok (.aload_n 0, 1) := by decide +kernel
theorem dX6_see_39 : decode cX6_see 39 = .ok (.getfield 38, 3) := by decide +kernel
theorem dX6_see_42 : decode cX6_see 42 = .ok (.aload_n 0, 1) := by decide +kernel
theorem dX6_see_43 : decode cX6_see 43 = .ok (.getfield 174, 3) := by decide +kernel
theorem dX6_see_46 : decode cX6_see 46 = .ok (.iload_n 1, 1) := by decide +kernel
theorem dX6_see_47 : decode cX6_see 47 = .ok (.iastore, 1) := by decide +kernel
theorem dX6_see_48 : decode cX6_see 48 = .ok (.aload_n 0, 1) := by decide +kernel
theorem dX6_see_49 : decode cX6_see 49 = .ok (.getfield 41, 3) := by decide +kernel
theorem dX6_see_52 : decode cX6_see 52 = .ok (.aload_n 0, 1) := by decide +kernel
theorem dX6_see_53 : decode cX6_see 53 = .ok (.getfield 174, 3) := by decide +kernel
theorem dX6_see_56 : decode cX6_see 56 = .ok (.iload_n 2, 1) := by decide +kernel
theorem dX6_see_57 : decode cX6_see 57 = .ok (.iastore, 1) := by decide +kernel
theorem dX6_see_58 : decode cX6_see 58 = .ok (.aload_n 0, 1) := by decide +kernel
theorem dX6_see_59 : decode cX6_see 59 = .ok (.getfield 44, 3) := by decide +kernel
theorem dX6_see_62 : decode cX6_see 62 = .ok (.aload_n 0, 1) := by decide +kernel
theorem dX6_see_63 : decode cX6_see 63 = .ok (.getfield 174, 3) := by decide +kernel
theorem dX6_see_66 : decode cX6_see 66 = .ok (.iload_n 3, 1) := by decide +kernel
theorem dX6_see_67 : decode cX6_see 67 = .ok (.iastore, 1) := by decide +kernel
theorem dX6_see_68 : decode cX6_see 68 = .ok (.aload_n 0, 1) := by decide +kernel
theorem dX6_see_69 : decode cX6_see 69 = .ok (.dup, 1) := by decide +kernel
theorem dX6_see_70 : decode cX6_see 70 = .ok (.getfield 174, 3) := by decide +kernel
theorem dX6_see_73 : decode cX6_see 73 = .ok (.iconst 1, 1) := by decide +kernel
theorem dX6_see_74 : decode cX6_see 74 = .ok (.iadd, 1) := by decide +kernel
theorem dX6_see_75 : decode cX6_see 75 = .ok (.putfield 174, 3) := by decide +kernel
theorem dX6_see_78 : decode cX6_see 78 = .ok (.aload_n 0, 1) := by decide +kernel
theorem dX6_see_79 : decode cX6_see 79 = .ok (.getfield 174, 3) := by decide +kernel
theorem dX6_see_82 : decode cX6_see 82 = .ok (.ireturn, 1) := by decide +kernel
theorem dX6_unsee_0 : decode cX6_unsee 0 = .ok (.aload_n 0, 1) := by decide +kernel
theorem dX6_unsee_1 : decode cX6_unsee 1 = .ok (.getfield 174, 3) := by decide +kernel
theorem dX6_unsee_4 : decode cX6_unsee 4 = .ok (.istore_n 1, 1) := by decide +kernel
theorem dX6_unsee_5 : decode cX6_unsee 5 = .ok (.aload_n 0, 1) := by decide +kernel
theorem dX6_unsee_6 : decode cX6_unsee 6 = .ok (.iconst 0, 1) := by decide +kernel
theorem dX6_unsee_7 : decode cX6_unsee 7 = .ok (.putfield 174, 3) := by decide +kernel
theorem dX6_unsee_10 : decode cX6_unsee 10 = .ok (.iload_n 1, 1) := by decide +kernel
theorem dX6_unsee_11 : decode cX6_unsee 11 = .ok (.ireturn, 1) := by decide +kernel
theorem dX6_isSoBy_0 : decode cX6_isSoBy 0 = .ok (.aload_n 0, 1) := by decide +kernel
theorem dX6_isSoBy_1 : decode cX6_isSoBy 1 = .ok (.getfield 22, 3) := by decide +kernel
theorem dX6_isSoBy_4 : decode cX6_isSoBy 4 = .ok (.aload_n 0, 1) := by decide +kernel
theorem dX6_isSoBy_5 : decode cX6_isSoBy 5 = .ok (.getfield 25, 3) := by decide +kernel
theorem dX6_isSoBy_8 : decode cX6_isSoBy 8 = .ok (.invokestatic 212, 3) := by decide +kernel
theorem dX6_isSoBy_11 : decode cX6_isSoBy 11 = .ok (.iconst 0, 1) := by decide +kernel
theorem dX6_isSoBy_12 : decode cX6_isSoBy 12 = .ok (.istore_n 3, 1) := by decide +kernel
theorem dX6_isSoBy_13 : decode cX6_isSoBy 13 = .ok (.iload_n 3, 1) := by decide +kernel
theorem dX6_isSoBy_14 : decode cX6_isSoBy 14 = .ok (.iconst 4, 1) := by decide +kernel
theorem dX6_isSoBy_15 : decode cX6_isSoBy 15 = .ok (.if_icmp .ge 60, 3) := by decide +kernel
theorem dX6_isSoBy_18 : decode cX6_isSoBy 18 = .ok (.iload_n 1, 1) := by decide +kernel
theorem dX6_isSoBy_19 : decode cX6_isSoBy 19 = .ok (.bipush 14, 2) := by decide +kernel
theorem dX6_isSoBy_21 : decode cX6_isSoBy 21 = .ok (.idiv, 1) := by decide +kernel
theorem dX6_isSoBy_22 : decode cX6_isSoBy 22 = .ok (.iload_n 3, 1) := by decide +kernel
theorem dX6_isSoBy_23 : decode cX6_isSoBy 23 = .ok (.if_icmp .ne 15, 3) := by decide +kernel
theorem dX6_isSoBy_26 : decode cX6_isSoBy 26 = .ok (.iconst 1, 1) := by decide +kernel
theorem dX6_isSoBy_27 : decode cX6_isSoBy 27 = .ok (.bipush 13, 2) := by decide +kernel
theorem dX6_isSoBy_29 : decode cX6_isSoBy 29 = .ok (.iload_n 1, 1) := by decide +kernel
theorem dX6_isSoBy_30 : decode cX6_isSoBy 30 = .ok (.bipush 14, 2) := by decide +kernel
theorem dX6_isSoBy_32 : decode cX6_isSoBy 32 = .ok (.irem, 1) := by decide +kernel
theorem dX6_isSoBy_33 : decode cX6_isSoBy 33 = .ok (.isub, 1) := by decide +kernel
theorem dX6_isSoBy_34 : decode cX6_isSoBy 34 = .ok (.ishl, 1) := by decide +kernel
theorem dX6_isSoBy_35 : decode cX6_isSoBy 35 = .ok (.goto 4, 3) := by decide +kernel
theorem dX6_isSoBy_38 : decode cX6_isSoBy 38 = .ok (.iconst 0, 1) := by decide +kernel
theorem dX6_isSoBy_39 : decode cX6_isSoBy 39 = .ok (.istore 4, 2) := by decide +kernel
theorem dX6_isSoBy_41 : decode cX6_isSoBy 41 = .ok (.aload_n 0, 1) := by decide +kernel
theorem dX6_isSoBy_42 : decode cX6_isSoBy 42 = .ok (.aload_n 0, 1) := by decide +kernel
theorem dX6_isSoBy_43 : decode cX6_isSoBy 43 = .ok (.getfield 25, 3) := by decide +kernel
theorem dX6_isSoBy_46 : decode cX6_isSoBy 46 = .ok (.bipush 14, 2) := by decide +kernel
theorem dX6_isSoBy_48 : decode cX6_isSoBy 48 = .ok (.aload_n 0, 1) := by decide +kernel
theorem dX6_isSoBy_49 : decode cX6_isSoBy 49 = .ok (.iload_n 3, 1) := by decide +kernel
theorem dX6_isSoBy_50 : decode cX6_isSoBy 50 = .ok (.aload_n 0, 1) := by decide +kernel
theorem dX6_isSoBy_51 : decode cX6_isSoBy 51 = .ok (.getfield 38, 3) := by decide +kernel
theorem dX6_isSoBy_54 : decode cX6_isSoBy 54 = .ok (.iload_n 2, 1) := by decide +kernel
theorem dX6_isSoBy_55 : decode cX6_isSoBy 55 = .ok (.iaload, 1) := by decide +kernel
theorem dX6_isSoBy_56 : decode cX6_isSoBy 56 = .ok (.iload_n 3, 1) := by decide +kernel
theorem dX6_isSoBy_57 : decode cX6_isSoBy 57 = .ok (.invokestatic 165, 3) := by decide +kernel
theorem dX6_isSoBy_60 : decode cX6_isSoBy 60 = .ok (.invokevirtual 168, 3) := by decide +kernel
theorem dX6_isSoBy_63 : decode cX6_isSoBy 63 = .ok (.iload 4, 2) := by decide +kernel
theorem dX6_isSoBy_65 : decode cX6_isSoBy 65 = .ok (.ixor, 1) := by decide +kernel
theorem dX6_isSoBy_66 : decode cX6_isSoBy 66 = .ok (.invokevirtual 171, 3) := by decide +kernel
theorem dX6_isSoBy_69 : decode cX6_isSoBy 69 = .ok (.iinc 3 1, 3) := by decide +kernel
theorem dX6_isSoBy_72 : decode cX6_isSoBy 72 = .ok (.goto (-59), 3) := by decide +kernel
theorem dX6_isSoBy_75 : decode cX6_isSoBy 75 = .ok (.bipush 10, 2) := by decide +kernel
theorem dX6_isSoBy_77 : decode cX6_isSoBy 77 = .ok (.aload_n 0, 1) := by decide +kernel
theorem dX6_isSoBy_78 : decode cX6_isSoBy 78 = .ok (.getfield 41, 3) := by decide +kernel
theorem dX6_isSoBy_81 : decode cX6_isSoBy 81 = .ok (.iload_n 2, 1) := by decide +kernel
theorem dX6_isSoBy_82 : decode cX6_isSoBy 82 = .ok (.iaload, 1) := by decide +kernel
theorem dX6_isSoBy_83 : decode cX6_isSoBy 83 = .ok (.iadd, 1) := by decide +kernel
theorem dX6_isSoBy_84 : decode cX6_isSoBy 84 = .ok (.istore_n 3, 1) := by decide +kernel
theorem dX6_isSoBy_85 : decode cX6_isSoBy 85 = .ok (.aload_n 0, 1) := by decide +kernel
theorem dX6_isSoBy_86 : decode cX6_isSoBy 86 = .ok (.getfield 25, 3) := by decide +kernel
theorem dX6_isSoBy_89 : decode cX6_isSoBy 89 = .ok (.iload_n 3, 1) := by decide +kernel
theorem dX6_isSoBy_90 : decode cX6_isSoBy 90 = .ok (.iaload, 1) := by decide +kernel
theorem dX6_isSoBy_91 : decode cX6_isSoBy 91 = .ok (.aload_n 0, 1) := by decide +kernel
theorem dX6_isSoBy_92 : decode cX6_isSoBy 92 = .ok (.getfield 22, 3) := by decide +kernel
theorem dX6_isSoBy_95 : decode cX6_isSoBy 95 = .ok (.iload_n 3, 1) := by decide +kernel
theorem dX6_isSoBy_96 : decode cX6_isSoBy 96 = .ok (.iaload, 1) := by decide +kernel
theorem dX6_isSoBy_97 : decode cX6_isSoBy 97 = .ok (.isub, 1) := by decide +kernel
theorem dX6_isSoBy_98 : decode cX6_isSoBy 98 = .ok (.aload_n 0, 1) := by decide +kernel
theorem dX6_isSoBy_99 : decode cX6_isSoBy 99 = .ok (.getfield 44, 3) := by decide +kernel
theorem dX6_isSoBy_102 : decode cX6_isSoBy 102 = .ok (.iload_n 2, 1) := by decide +kernel
theorem dX6_isSoBy_103 : decode cX6_isSoBy 103 = .ok (.iaload, 1) := by decide +kernel
theorem dX6_isSoBy_104 : decode cX6_isSoBy 104 = .ok (.if_icmp .ne 7, 3) := by decide +kernel
theorem dX6_isSoBy_107 : decode cX6_isSoBy 107 = .ok (.iconst 1, 1) := by decide +kernel
theorem dX6_isSoBy_108 : decode cX6_isSoBy 108 = .ok (.goto 4, 3) := by decide +kernel
theorem dX6_isSoBy_111 : decode cX6_isSoBy 111 = .ok (.iconst 0, 1) := by decide +kernel
theorem dX6_isSoBy_112 : decode cX6_isSoBy 112 = .ok (.ireturn, 1) := by decide +kernel
theorem dX6_which_0 : decode cX6_which 0 = .ok (.lconst 0, 1) := by decide +kernel
theorem dX6_which_1 : decode cX6_which 1 = .ok (.lstore_n 1, 1) := by decide +kernel
theorem dX6_which_2 : decode cX6_which 2 = .ok (.iconst 0, 1) := by decide +kernel
theorem dX6_which_3 : decode cX6_which 3 = .ok (.istore_n 3, 1) := by decide +kernel
theorem dX6_which_4 : decode cX6_which 4 = .ok (.iload_n 3, 1) := by decide +kernel
theorem dX6_which_5 : decode cX6_which 5 = .ok (.bipush 56, 2) := by decide +kernel
theorem dX6_which_7 : decode cX6_which 7 = .ok (.if_icmp .ge 67, 3) := by decide +kernel
theorem dX6_which_10 : decode cX6_which 10 = .ok (.iconst 1, 1) := by decide +kernel
theorem dX6_which_11 : decode cX6_which 11 = .ok (.istore 4, 2) := by decide +kernel
theorem dX6_which_13 : decode cX6_which 13 = .ok (.iconst 0, 1) := by decide +kernel
theorem dX6_which_14 : decode cX6_which 14 = .ok (.istore 5, 2) := by decide +kernel
theorem dX6_which_16 : decode cX6_which 16 = .ok (.iload 5, 2) := by decide +kernel
theorem dX6_which_18 : decode cX6_which 18 = .ok (.aload_n 0, 1) := by decide +kernel
theorem dX6_which_19 : decode cX6_which 19 = .ok (.getfield 174, 3) := by decide +kernel
theorem dX6_which_22 : decode cX6_which 22 = .ok (.if_icmp .ge 31, 3) := by decide +kernel
theorem dX6_which_25 : decode cX6_which 25 = .ok (.iload 4, 2) := by decide +kernel
theorem dX6_which_27 : decode cX6_which 27 = .ok (.ifCond .eq 17, 3) := by decide +kernel
theorem dX6_which_30 : decode cX6_which 30 = .ok (.aload_n 0, 1) := by decide +kernel
theorem dX6_which_31 : decode cX6_which 31 = .ok (.iload_n 3, 1) := by decide +kernel
theorem dX6_which_32 : decode cX6_which 32 = .ok (.iload 5, 2) := by decide +kernel
theorem dX6_which_34 : decode cX6_which 34 = .ok (.invokevirtual 228, 3) := by decide +kernel
theorem dX6_which_37 : decode cX6_which 37 = .ok (.ifCond .eq 7, 3) := by decide +kernel
theorem dX6_which_40 : decode cX6_which 40 = .ok (.iconst 1, 1) := by decide +kernel
theorem dX6_which_41 : decode cX6_which 41 = .ok (.goto 4, 3) := by decide +kernel
theorem dX6_which_44 : decode cX6_which 44 = .ok (.iconst 0, 1) := by decide +kernel
theorem dX6_which_45 : decode cX6_which 45 = .ok (.istore 4, 2) := by decide +kernel
theorem dX6_which_47 : decode cX6_which 47 = .ok (.iinc 5 1, 3) := by decide +kernel
theorem dX6_which_50 : decode cX6_which 50 = .ok (.goto (-34), 3) := by decide +kernel
theorem dX6_which_53 : decode cX6_which 53 = .ok (.lload_n 1, 1) := by decide +kernel
theorem dX6_which_54 : decode cX6_which 54 = .ok (.iload 4, 2) := by decide +kernel
theorem dX6_which_56 : decode cX6_which 56 = .ok (.ifCond .eq 9, 3) := by decide +kernel
theorem dX6_which_59 : decode cX6_which 59 = .ok (.lconst 1, 1) := by decide +kernel
theorem dX6_which_60 : decode cX6_which 60 = .ok (.iload_n 3, 1) := by decide +kernel
theorem dX6_which_61 : decode cX6_which 61 = .ok (.lshl, 1) := by decide +kernel
theorem dX6_which_62 : decode cX6_which 62 = .ok (.goto 4, 3) := by decide +kernel
theorem dX6_which_65 : decode cX6_which 65 = .ok (.lconst 0, 1) := by decide +kernel
theorem dX6_which_66 : decode cX6_which 66 = .ok (.lor, 1) := by decide +kernel
theorem dX6_which_67 : decode cX6_which 67 = .ok (.lstore_n 1, 1) := by decide +kernel
theorem dX6_which_68 : decode cX6_which 68 = .ok (.iinc 3 1, 3) := by decide +kernel
theorem dX6_which_71 : decode cX6_which 71 = .ok (.goto (-67), 3) := by decide +kernel
theorem dX6_which_74 : decode cX6_which 74 = .ok (.lload_n 1, 1) := by decide +kernel
theorem dX6_which_75 : decode cX6_which 75 = .ok (.lreturn, 1) := by decide +kernel
theorem dX6_share_0 : decode cX6_share 0 = .ok (.iload_n 2, 1) := by decide +kernel
theorem dX6_share_1 : decode cX6_share 1 = .ok (.invokestatic 183, 3) := by decide +kernel
theorem dX6_share_4 : decode cX6_share 4 = .ok (.ifCond .ne 5, 3) := by decide +kernel
theorem dX6_share_7 : decode cX6_share 7 = .ok (.iconst (-1), 1) := by decide +kernel
theorem dX6_share_8 : decode cX6_share 8 = .ok (.ireturn, 1) := by decide +kernel
theorem dX6_share_9 : decode cX6_share 9 = .ok (.iconst 0, 1) := by decide +kernel
theorem dX6_share_10 : decode cX6_share 10 = .ok (.istore 4, 2) := by decide +kernel
theorem dX6_share_12 : decode cX6_share 12 = .ok (.iload 4, 2) := by decide +kernel
theorem dX6_share_14 : decode cX6_share 14 = .ok (.bipush 16, 2) := by decide +kernel
theorem dX6_share_16 : decode cX6_share 16 = .ok (.if_icmp .ge 65, 3) := by decide +kernel
theorem dX6_share_19 : decode cX6_share 19 = .ok (.aload_n 0, 1) := by decide +kernel
theorem dX6_share_20 : decode cX6_share 20 = .ok (.getfield 22, 3) := by decide +kernel
theorem dX6_share_23 : decode cX6_share 23 = .ok (.aload_n 0, 1) := by decide +kernel
theorem dX6_share_24 : decode cX6_share 24 = .ok (.getfield 25, 3) := by decide +kernel
theorem dX6_share_27 : decode cX6_share 27 = .ok (.invokestatic 212, 3) := by decide +kernel
theorem dX6_share_30 : decode cX6_share 30 = .ok (.iconst 0, 1) := by decide +kernel
theorem dX6_share_31 : decode cX6_share 31 = .ok (.istore 5, 2) := by decide +kernel
theorem dX6_share_33 : decode cX6_share 33 = .ok (.iload 5, 2) := by decide +kernel
theorem dX6_share_35 : decode cX6_share 35 = .ok (.iconst 3, 1) := by decide +kernel
theorem dX6_share_36 : decode cX6_share 36 = .ok (.if_icmp .ge 25, 3) := by decide +kernel
theorem dX6_share_39 : decode cX6_share 39 = .ok (.aload_n 0, 1) := by decide +kernel
theorem dX6_share_40 : decode cX6_share 40 = .ok (.aload_n 0, 1) := by decide +kernel
theorem dX6_share_41 : decode cX6_share 41 = .ok (.getfield 25, 3) := by decide +kernel
theorem dX6_share_44 : decode cX6_share 44 = .ok (.iload_n 1, 1) := by decide +kernel
theorem dX6_share_45 : decode cX6_share 45 = .ok (.bipush 15, 2) := by decide +kernel
theorem dX6_share_47 : decode cX6_share 47 = .ok (.iload 4, 2) := by decide +kernel
theorem dX6_share_49 : decode cX6_share 49 = .ok (.iconst (-1), 1) := by decide +kernel
theorem dX6_share_50 : decode cX6_share 50 = .ok (.ixor, 1) := by decide +kernel
theorem dX6_share_51 : decode cX6_share 51 = .ok (.iand, 1) := by decide +kernel
theorem dX6_share_52 : decode cX6_share 52 = .ok (.invokevirtual 206, 3) := by decide +kernel
theorem dX6_share_55 : decode cX6_share 55 = .ok (.iinc 5 1, 3) := by decide +kernel
theorem dX6_share_58 : decode cX6_share 58 = .ok (.goto (-25), 3) := by decide +kernel
theorem dX6_share_61 : decode cX6_share 61 = .ok (.aload_n 0, 1) := by decide +kernel
theorem dX6_share_62 : decode cX6_share 62 = .ok (.getfield 47, 3) := by decide +kernel
theorem dX6_share_65 : decode cX6_share 65 = .ok (.iload 4, 2) := by decide +kernel
theorem dX6_share_67 : decode cX6_share 67 = .ok (.aload_n 0, 1) := by decide +kernel
theorem dX6_share_68 : decode cX6_share 68 = .ok (.getfield 25, 3) := by decide +kernel
theorem dX6_share_71 : decode cX6_share 71 = .ok (.bipush 10, 2) := by decide +kernel
theorem dX6_share_73 : decode cX6_share 73 = .ok (.iaload, 1) := by decide +kernel
theorem dX6_share_74 : decode cX6_share 74 = .ok (.iastore, 1) := by decide +kernel
theorem dX6_share_75 : decode cX6_share 75 = .ok (.iinc 4 1, 3) := by decide +kernel
theorem dX6_share_78 : decode cX6_share 78 = .ok (.goto (-66), 3) := by decide +kernel
theorem dX6_share_81 : decode cX6_share 81 = .ok (.iconst 0, 1) := by decide +kernel
theorem dX6_share_82 : decode cX6_share 82 = .ok (.istore 4, 2) := by decide +kernel
theorem dX6_share_84 : decode cX6_share 84 = .ok (.iconst 0, 1) := by decide +kernel
theorem dX6_share_85 : decode cX6_share 85 = .ok (.istore 5, 2) := by decide +kernel
theorem dX6_share_87 : decode cX6_share 87 = .ok (.iload 5, 2) := by decide +kernel
theorem dX6_share_89 : decode cX6_share 89 = .ok (.bipush 16, 2) := by decide +kernel
theorem dX6_share_91 : decode cX6_share 91 = .ok (.if_icmp .ge 63, 3) := by decide +kernel
theorem dX6_share_94 : decode cX6_share 94 = .ok (.iload 5, 2) := by decide +kernel
theorem dX6_share_96 : decode cX6_share 96 = .ok (.iload_n 2, 1) := by decide +kernel
theorem dX6_share_97 : decode cX6_share 97 = .ok (.invokestatic 72, 3) := by decide +kernel
theorem dX6_share_100 : decode cX6_share 100 = .ok (.ifCond .ne 48, 3) := by decide +kernel
theorem dX6_share_103 : decode cX6_share 103 = .ok (.iload 5, 2) := by decide +kernel
theorem dX6_share_105 : decode cX6_share 105 = .ok (.invokestatic 195, 3) := by decide +kernel
theorem dX6_share_108 : decode cX6_share 108 = .ok (.istore 6, 2) := by decide +kernel
theorem dX6_share_110 : decode cX6_share 110 = .ok (.iload 4, 2) := by decide +kernel
theorem dX6_share_112 : decode cX6_share 112 = .ok (.iload 6, 2) := by decide +kernel
theorem dX6_share_114 : decode cX6_share 114 = .ok (.invokestatic 231, 3) := by decide +kernel
theorem dX6_share_117 : decode cX6_share 117 = .ok (.iconst 3, 1) := by decide +kernel
theorem dX6_share_118 : decode cX6_share 118 = .ok (.iload 6, 2) := by decide +kernel
theorem dX6_share_120 : decode cX6_share 120 = .ok (.isub, 1) := by decide +kernel
theorem dX6_share_121 : decode cX6_share 121 = .ok (.invokestatic 231, 3) := by decide +kernel
theorem dX6_share_124 : decode cX6_share 124 = .ok (.imul, 1) := by decide +kernel
theorem dX6_share_125 : decode cX6_share 125 = .ok (.aload_n 0, 1) := by decide +kernel
theorem dX6_share_126 : decode cX6_share 126 = .ok (.getfield 47, 3) := by decide +kernel
theorem dX6_share_129 : decode cX6_share 129 = .ok (.iload 5, 2) := by decide +kernel
theorem dX6_share_131 : decode cX6_share 131 = .ok (.iconst 1, 1) := by decide +kernel
theorem dX6_share_132 : decode cX6_share 132 = .ok (.iload_n 2, 1) := by decide +kernel
theorem dX6_share_133 : decode cX6_share 133 = .ok (.ishl, 1) := by decide +kernel
theorem dX6_share_134 : decode cX6_share 134 = .ok (.ior, 1) := by decide +kernel
theorem dX6_share_135 : decode cX6_share 135 = .ok (.iaload, 1) := by decide +kernel
theorem dX6_share_136 : decode cX6_share 136 = .ok (.aload_n 0, 1) := by decide +kernel
theorem dX6_share_137 : decode cX6_share 137 = .ok (.getfield 47, 3) := by decide +kernel
theorem dX6_share_140 : decode cX6_share 140 = .ok (.iload 5, 2) := by decide +kernel
theorem dX6_share_142 : decode cX6_share 142 = .ok (.iaload, 1) := by decide +kernel
theorem dX6_share_143 : decode cX6_share 143 = .ok (.isub, 1) := by decide +kernel
theorem dX6_share_144 : decode cX6_share 144 = .ok (.imul, 1) := by decide +kernel
theorem dX6_share_145 : decode cX6_share 145 = .ok (.iadd, 1) := by decide +kernel
theorem dX6_share_146 : decode cX6_share 146 = .ok (.istore 4, 2) := by decide +kernel
theorem dX6_share_148 : decode cX6_share 148 = .ok (.iinc 5 1, 3) := by decide +kernel
theorem dX6_share_151 : decode cX6_share 151 = .ok (.goto (-64), 3) := by decide +kernel
theorem dX6_share_154 : decode cX6_share 154 = .ok (.iload 4, 2) := by decide +kernel
theorem dX6_share_156 : decode cX6_share 156 = .ok (.bipush 24, 2) := by decide +kernel
theorem dX6_share_158 : decode cX6_share 158 = .ok (.iload_n 3, 1) := by decide +kernel
theorem dX6_share_159 : decode cX6_share 159 = .ok (.invokestatic 234, 3) := by decide +kernel
theorem dX6_share_162 : decode cX6_share 162 = .ok (.ireturn, 1) := by decide +kernel
theorem dX6_chance_0 : decode cX6_chance 0 = .ok (.iload_n 2, 1) := by decide +kernel
theorem dX6_chance_1 : decode cX6_chance 1 = .ok (.i2l, 1) := by decide +kernel
theorem dX6_chance_2 : decode cX6_chance 2 = .ok (.lconst 1, 1) := by decide +kernel
theorem dX6_chance_3 : decode cX6_chance 3 = .ok (.ldc2_w 226, 3) := by decide +kernel
theorem dX6_chance_6 : decode cX6_chance 6 = .ok (.invokestatic 68, 3) := by decide +kernel
theorem dX6_chance_9 : decode cX6_chance 9 = .ok (.ifCond .eq 15, 3) := by decide +kernel
theorem dX6_chance_12 : decode cX6_chance 12 = .ok (.iload_n 3, 1) := by decide +kernel
theorem dX6_chance_13 : decode cX6_chance 13 = .ok (.i2l, 1) := by decide +kernel
theorem dX6_chance_14 : decode cX6_chance 14 = .ok (.lconst 0, 1) := by decide +kernel
theorem dX6_chance_15 : decode cX6_chance 15 = .ok (.ldc2_w 238, 3) := by decide +kernel
theorem dX6_chance_18 : decode cX6_chance 18 = .ok (.invokestatic 68, 3) := by decide +kernel
theorem dX6_chance_21 : decode cX6_chance 21 = .ok (.ifCond .ne 6, 3) := by decide +kernel
theorem dX6_chance_24 : decode cX6_chance 24 = .ok (.bipush (-2), 2) := by decide +kernel
theorem dX6_chance_26 : decode cX6_chance 26 = .ok (.ireturn, 1) := by decide +kernel
theorem dX6_chance_27 : decode cX6_chance 27 = .ok (.iconst 0, 1) := by decide +kernel
theorem dX6_chance_28 : decode cX6_chance 28 = .ok (.istore 5, 2) := by decide +kernel
theorem dX6_chance_30 : decode cX6_chance 30 = .ok (.iconst 0, 1) := by decide +kernel
theorem dX6_chance_31 : decode cX6_chance 31 = .ok (.istore 6, 2) := by decide +kernel
theorem dX6_chance_33 : decode cX6_chance 33 = .ok (.iload 6, 2) := by decide +kernel
theorem dX6_chance_35 : decode cX6_chance 35 = .ok (.iconst 1, 1) := by decide +kernel
theorem dX6_chance_36 : decode cX6_chance 36 = .ok (.iconst 4, 1) := by decide +kernel
theorem dX6_chance_37 : decode cX6_chance 37 = .ok (.iload_n 2, 1) := by decide +kernel
theorem dX6_chance_38 : decode cX6_chance 38 = .ok (.imul, 1) := by decide +kernel
theorem dX6_chance_39 : decode cX6_chance 39 = .ok (.ishl, 1) := by decide +kernel
theorem dX6_chance_40 : decode cX6_chance 40 = .ok (.if_icmp .ge 99, 3) := by decide +kernel
theorem dX6_chance_43 : decode cX6_chance 43 = .ok (.aload_n 0, 1) := by decide +kernel
theorem dX6_chance_44 : decode cX6_chance 44 = .ok (.getfield 22, 3) := by decide +kernel
theorem dX6_chance_47 : decode cX6_chance 47 = .ok (.aload_n 0, 1) := by decide +kernel
theorem dX6_chance_48 : decode cX6_chance 48 = .ok (.getfield 25, 3) := by decide +kernel
theorem dX6_chance_51 : decode cX6_chance 51 = .ok (.invokestatic 212, 3) := by decide +kernel
theorem dX6_chance_54 : decode cX6_chance 54 = .ok (.iconst 0, 1) := by decide +kernel
theorem dX6_chance_55 : decode cX6_chance 55 = .ok (.istore 7, 2) := by decide +kernel
theorem dX6_chance_57 : decode cX6_chance 57 = .ok (.iload 7, 2) := by decide +kernel
theorem dX6_chance_59 : decode cX6_chance 59 = .ok (.iload_n 2, 1) := by decide +kernel
theorem dX6_chance_60 : decode cX6_chance 60 = .ok (.if_icmp .ge 28, 3) := by decide +kernel
theorem dX6_chance_63 : decode cX6_chance 63 = .ok (.aload_n 0, 1) := by decide +kernel
theorem dX6_chance_64 : decode cX6_chance 64 = .ok (.aload_n 0, 1) := by decide +kernel
theorem dX6_chance_65 : decode cX6_chance 65 = .ok (.getfield 25, 3) := by decide +kernel
theorem dX6_chance_68 : decode cX6_chance 68 = .ok (.iload_n 1, 1) := by decide +kernel
theorem dX6_chance_69 : decode cX6_chance 69 = .ok (.iload 6, 2) := by decide +kernel
theorem dX6_chance_71 : decode cX6_chance 71 = .ok (.iconst 4, 1) := by decide +kernel
theorem dX6_chance_72 : decode cX6_chance 72 = .ok (.iload 7, 2) := by decide +kernel
theorem dX6_chance_74 : decode cX6_chance 74 = .ok (.imul, 1) := by decide +kernel
theorem dX6_chance_75 : decode cX6_chance 75 = .ok (.ishr, 1) := by decide +kernel
theorem dX6_chance_76 : decode cX6_chance 76 = .ok (.bipush 15, 2) := by decide +kernel
theorem dX6_chance_78 : decode cX6_chance 78 = .ok (.iand, 1) := by decide +kernel
theorem dX6_chance_79 : decode cX6_chance 79 = .ok (.invokevirtual 206, 3) := by decide +kernel
theorem dX6_chance_82 : decode cX6_chance 82 = .ok (.iinc 7 1, 3) := by decide +kernel
theorem dX6_chance_85 : decode cX6_chance 85 = .ok (.goto (-28), 3) := by decide +kernel
theorem dX6_chance_88 : decode cX6_chance 88 = .ok (.iload 5, 2) := by decide +kernel
theorem dX6_chance_90 : decode cX6_chance 90 = .ok (.aload_n 0, 1) := by decide +kernel
theorem dX6_chance_91 : decode cX6_chance 91 = .ok (.getfield 25, 3) := by decide +kernel
theorem dX6_chance_94 : decode cX6_chance 94 = .ok (.iconst 3, 1) := by decide +kernel
theorem dX6_chance_95 : decode cX6_chance 95 = .ok (.iaload, 1) := by decide +kernel
theorem dX6_chance_96 : decode cX6_chance 96 = .ok (.iconst 1, 1) := by decide +kernel
theorem dX6_chance_97 : decode cX6_chance 97 = .ok (.if_icmp .ne 32, 3) := by decide +kernel
theorem dX6_chance_100 : decode cX6_chance 100 = .ok (.iload_n 3, 1) := by decide +kernel
theorem dX6_chance_101 : decode cX6_chance 101 = .ok (.iload 6, 2) := by decide +kernel
theorem dX6_chance_103 : decode cX6_chance 103 = .ok (.invokestatic 195, 3) := by decide +kernel
theorem dX6_chance_106 : decode cX6_chance 106 = .ok (.invokestatic 240, 3) := by decide +kernel
theorem dX6_chance_109 : decode cX6_chance 109 = .ok (.bipush 10, 2) := by decide +kernel
theorem dX6_chance_111 : decode cX6_chance 111 = .ok (.iload_n 3, 1) := by decide +kernel
theorem dX6_chance_112 : decode cX6_chance 112 = .ok (.isub, 1) := by decide +kernel
theorem dX6_chance_113 : decode cX6_chance 113 = .ok (.iconst 4, 1) := by decide +kernel
theorem dX6_chance_114 : decode cX6_chance 114 = .ok (.iload_n 2, 1) := by decide +kernel
theorem dX6_chance_115 : decode cX6_chance 115 = .ok (.imul, 1) := by decide +kernel
theorem dX6_chance_116 : decode cX6_chance 116 = .ok (.iload 6, 2) := by decide +kernel
theorem dX6_chance_118 : decode cX6_chance 118 = .ok (.invokestatic 195, 3) := by decide +kernel
theorem dX6_chance_121 : decode cX6_chance 121 = .ok (.isub, 1) := by decide +kernel
theorem dX6_chance_122 : decode cX6_chance 122 = .ok (.invokestatic 240, 3) := by decide +kernel
theorem dX6_chance_125 : decode cX6_chance 125 = .ok (.imul, 1) := by decide +kernel
theorem dX6_chance_126 : decode cX6_chance 126 = .ok (.goto 4, 3) := by decide +kernel
theorem dX6_chance_129 : decode cX6_chance 129 = .ok (.iconst 0, 1) := by decide +kernel
theorem dX6_chance_130 : decode cX6_chance 130 = .ok (.iadd, 1) := by decide +kernel
theorem dX6_chance_131 : decode cX6_chance 131 = .ok (.istore 5, 2) := by decide +kernel
theorem dX6_chance_133 : decode cX6_chance 133 = .ok (.iinc 6 1, 3) := by decide +kernel
theorem dX6_chance_136 : decode cX6_chance 136 = .ok (.goto (-103), 3) := by decide +kernel
theorem dX6_chance_139 : decode cX6_chance 139 = .ok (.iload 5, 2) := by decide +kernel
theorem dX6_chance_141 : decode cX6_chance 141 = .ok (.bipush 10, 2) := by decide +kernel
theorem dX6_chance_143 : decode cX6_chance 143 = .ok (.iconst 4, 1) := by decide +kernel
theorem dX6_chance_144 : decode cX6_chance 144 = .ok (.iload_n 2, 1) := by decide +kernel
theorem dX6_chance_145 : decode cX6_chance 145 = .ok (.imul, 1) := by decide +kernel
theorem dX6_chance_146 : decode cX6_chance 146 = .ok (.invokestatic 240, 3) := by decide +kernel
theorem dX6_chance_149 : decode cX6_chance 149 = .ok (.iload 4, 2) := by decide +kernel
theorem dX6_chance_151 : decode cX6_chance 151 = .ok (.invokestatic 234, 3) := by decide +kernel
theorem dX6_chance_154 : decode cX6_chance 154 = .ok (.ireturn, 1) := by decide +kernel
theorem dX6_seed_0 : decode cX6_seed 0 = .ok (.aload_n 0, 1) := by decide +kernel
theorem dX6_seed_1 : decode cX6_seed 1 = .ok (.getfield 243, 3) := by decide +kernel
theorem dX6_seed_4 : decode cX6_seed 4 = .ok (.lstore_n 3, 1) := by decide +kernel
theorem dX6_seed_5 : decode cX6_seed 5 = .ok (.aload_n 0, 1) := by decide +kernel
theorem dX6_seed_6 : decode cX6_seed 6 = .ok (.lload_n 1, 1) := by decide +kernel
theorem dX6_seed_7 : decode cX6_seed 7 = .ok (.putfield 243, 3) := by decide +kernel
theorem dX6_seed_10 : decode cX6_seed 10 = .ok (.lload_n 3, 1) := by decide +kernel
theorem dX6_seed_11 : decode cX6_seed 11 = .ok (.lreturn, 1) := by decide +kernel
theorem dX6_drawn_0 : decode cX6_drawn 0 = .ok (.iload_n 1, 1) := by decide +kernel
theorem dX6_drawn_1 : decode cX6_drawn 1 = .ok (.i2l, 1) := by decide +kernel
theorem dX6_drawn_2 : decode cX6_drawn 2 = .ok (.lconst 1, 1) := by decide +kernel
theorem dX6_drawn_3 : decode cX6_drawn 3 = .ok (.ldc2_w 247, 3) := by decide +kernel
theorem dX6_drawn_6 : decode cX6_drawn 6 = .ok (.invokestatic 68, 3) := by decide +kernel
theorem dX6_drawn_9 : decode cX6_drawn 9 = .ok (.ifCond .ne 6, 3) := by decide +kernel
theorem dX6_drawn_12 : decode cX6_drawn 12 = .ok (.bipush (-2), 2) := by decide +kernel
theorem dX6_drawn_14 : decode cX6_drawn 14 = .ok (.ireturn, 1) := by decide +kernel
theorem dX6_drawn_15 : decode cX6_drawn 15 = .ok (.aload_n 0, 1) := by decide +kernel
theorem dX6_drawn_16 : decode cX6_drawn 16 = .ok (.getfield 22, 3) := by decide +kernel
theorem dX6_drawn_19 : decode cX6_drawn 19 = .ok (.aload_n 0, 1) := by decide +kernel
theorem dX6_drawn_20 : decode cX6_drawn 20 = .ok (.getfield 25, 3) := by decide +kernel
theorem dX6_drawn_23 : decode cX6_drawn 23 = .ok (.invokestatic 212, 3) := by decide +kernel
theorem dX6_drawn_26 : decode cX6_drawn 26 = .ok (.iconst 0, 1) := by decide +kernel
theorem dX6_drawn_27 : decode cX6_drawn 27 = .ok (.istore_n 2, 1) := by decide +kernel
theorem dX6_drawn_28 : decode cX6_drawn 28 = .ok (.iconst 0, 1) := by decide +kernel
theorem dX6_drawn_29 : decode cX6_drawn 29 = .ok (.istore_n 3, 1) := by decide +kernel
theorem dX6_drawn_30 : decode cX6_drawn 30 = .ok (.iload_n 3, 1) := by decide +kernel
theorem dX6_drawn_31 : decode cX6_drawn 31 = .ok (.iload_n 1, 1) := by decide +kernel
theorem dX6_drawn_32 : decode cX6_drawn 32 = .ok (.if_icmp .ge 96, 3) := by decide +kernel
theorem dX6_drawn_35 : decode cX6_drawn 35 = .ok (.aload_n 0, 1) := by decide +kernel
theorem dX6_drawn_36 : decode cX6_drawn 36 = .ok (.aload_n 0, 1) := by decide +kernel
theorem dX6_drawn_37 : decode cX6_drawn 37 = .ok (.getfield 243, 3) := by decide +kernel
theorem dX6_drawn_40 : decode cX6_drawn 40 = .ok (.ldc2_w 249, 3) := by decide +kernel
theorem dX6_drawn_43 : decode cX6_drawn 43 = .ok (.lmul, 1) := by decide +kernel
theorem dX6_drawn_44 : decode cX6_drawn 44 = .ok (.ldc2_w 251, 3) := by decide +kernel
theorem dX6_drawn_47 : decode cX6_drawn 47 = .ok (.ladd, 1) := by decide +kernel
theorem dX6_drawn_48 : decode cX6_drawn 48 = .ok (.putfield 243, 3) := by decide +kernel
theorem dX6_drawn_51 : decode cX6_drawn 51 = .ok (.aload_n 0, 1) := by decide +kernel
theorem dX6_drawn_52 : decode cX6_drawn 52 = .ok (.getfield 243, 3) := by decide +kernel
theorem dX6_drawn_55 : decode cX6_drawn 55 = .ok (.bipush 33, 2) := by decide +kernel
theorem dX6_drawn_57 : decode cX6_drawn 57 = .ok (.lushr, 1) := by decide +kernel
theorem dX6_drawn_58 : decode cX6_drawn 58 = .ok (.l2i, 1) := by decide +kernel
theorem dX6_drawn_59 : decode cX6_drawn 59 = .ok (.istore 4, 2) := by decide +kernel
theorem dX6_drawn_61 : decode cX6_drawn 61 = .ok (.iload 4, 2) := by decide +kernel
theorem dX6_drawn_63 : decode cX6_drawn 63 = .ok (.bipush 8, 2) := by decide +kernel
theorem dX6_drawn_65 : decode cX6_drawn 65 = .ok (.ishr, 1) := by decide +kernel
theorem dX6_drawn_66 : decode cX6_drawn 66 = .ok (.iconst 4, 1) := by decide +kernel
theorem dX6_drawn_67 : decode cX6_drawn 67 = .ok (.irem, 1) := by decide +kernel
theorem dX6_drawn_68 : decode cX6_drawn 68 = .ok (.ifCond .ne 16, 3) := by decide +kernel
theorem dX6_drawn_71 : decode cX6_drawn 71 = .ok (.iconst 1, 1) := by decide +kernel
theorem dX6_drawn_72 : decode cX6_drawn 72 = .ok (.iload 4, 2) := by decide +kernel
theorem dX6_drawn_74 : decode cX6_drawn 74 = .ok (.bipush 12, 2) := by decide +kernel
theorem dX6_drawn_76 : decode cX6_drawn 76 = .ok (.ishr, 1) := by decide +kernel
theorem dX6_drawn_77 : decode cX6_drawn 77 = .ok (.bipush 14, 2) := by decide +kernel
theorem dX6_drawn_79 : decode cX6_drawn 79 = .ok (.irem, 1) := by decide +kernel
theorem dX6_drawn_80 : decode cX6_drawn 80 = .ok (.ishl, 1) := by decide +kernel
theorem dX6_drawn_81 : decode cX6_drawn 81 = .ok (.goto 4, 3) := by decide +kernel
theorem dX6_drawn_84 : decode cX6_drawn 84 = .ok (.iconst 0, 1) := by decide +kernel
theorem dX6_drawn_85 : decode cX6_drawn 85 = .ok (.istore 5, 2) := by decide +kernel
theorem dX6_drawn_87 : decode cX6_drawn 87 = .ok (.aload_n 0, 1) := by decide +kernel
theorem dX6_drawn_88 : decode cX6_drawn 88 = .ok (.aload_n 0, 1) := by decide +kernel
theorem dX6_drawn_89 : decode cX6_drawn 89 = .ok (.getfield 25, 3) := by decide +kernel
theorem dX6_drawn_92 : decode cX6_drawn 92 = .ok (.bipush 14, 2) := by decide +kernel
theorem dX6_drawn_94 : decode cX6_drawn 94 = .ok (.aload_n 0, 1) := by decide +kernel
theorem dX6_drawn_95 : decode cX6_drawn 95 = .ok (.iload_n 3, 1) := by decide +kernel
theorem dX6_drawn_96 : decode cX6_drawn 96 = .ok (.iconst 3, 1) := by decide +kernel
theorem dX6_drawn_97 : decode cX6_drawn 97 = .ok (.iand, 1) := by decide +kernel
theorem dX6_drawn_98 : decode cX6_drawn 98 = .ok (.iload 4, 2) := by decide +kernel
theorem dX6_drawn_100 : decode cX6_drawn 100 = .ok (.sipush 255, 3) := by decide +kernel
theorem dX6_drawn_103 : decode cX6_drawn 103 = .ok (.iand, 1) := by decide +kernel
theorem dX6_drawn_104 : decode cX6_drawn 104 = .ok (.invokevirtual 168, 3) := by decide +kernel
theorem dX6_drawn_107 : decode cX6_drawn 107 = .ok (.iload 5, 2) := by decide +kernel
theorem dX6_drawn_109 : decode cX6_drawn 109 = .ok (.ixor, 1) := by decide +kernel
theorem dX6_drawn_110 : decode cX6_drawn 110 = .ok (.invokevirtual 171, 3) := by decide +kernel
theorem dX6_drawn_113 : decode cX6_drawn 113 = .ok (.iload_n 2, 1) := by decide +kernel
theorem dX6_drawn_114 : decode cX6_drawn 114 = .ok (.aload_n 0, 1) := by decide +kernel
theorem dX6_drawn_115 : decode cX6_drawn 115 = .ok (.getfield 25, 3) := by decide +kernel
theorem dX6_drawn_118 : decode cX6_drawn 118 = .ok (.iconst 3, 1) := by decide +kernel
theorem dX6_drawn_119 : decode cX6_drawn 119 = .ok (.iaload, 1) := by decide +kernel
theorem dX6_drawn_120 : decode cX6_drawn 120 = .ok (.iadd, 1) := by decide +kernel
theorem dX6_drawn_121 : decode cX6_drawn 121 = .ok (.istore_n 2, 1) := by decide +kernel
theorem dX6_drawn_122 : decode cX6_drawn 122 = .ok (.iinc 3 1, 3) := by decide +kernel
theorem dX6_drawn_125 : decode cX6_drawn 125 = .ok (.goto (-95), 3) := by decide +kernel
theorem dX6_drawn_128 : decode cX6_drawn 128 = .ok (.iload_n 2, 1) := by decide +kernel
theorem dX6_drawn_129 : decode cX6_drawn 129 = .ok (.ireturn, 1) := by decide +kernel
theorem dX6_keep_0 : decode cX6_keep 0 = .ok (.iload_n 1, 1) := by decide +kernel
theorem dX6_keep_1 : decode cX6_keep 1 = .ok (.i2l, 1) := by decide +kernel
theorem dX6_keep_2 : decode cX6_keep 2 = .ok (.lconst 0, 1) := by decide +kernel
theorem dX6_keep_3 : decode cX6_keep 3 = .ok (.lconst 1, 1) := by decide +kernel
end
section
theorem dX6_keep_4 : decode cX6_keep 4 = .ok (.invokestatic 68, 3) := by decide +kernel
theorem dX6_keep_7 : decode cX6_keep 7 = .ok (.ifCond .ne 5, 3) := by decide +kernel
theorem dX6_keep_10 : decode cX6_keep 10 = .ok (.iconst (-1), 1) := by decide +kernel
theorem dX6_keep_11 : decode cX6_keep 11 = .ok (.ireturn, 1) := by decide +kernel
theorem dX6_keep_12 : decode cX6_keep 12 = .ok (.aload_n 0, 1) := by decide +kernel
theorem dX6_keep_13 : decode cX6_keep 13 = .ok (.getfield 34, 3) := by decide +kernel
theorem dX6_keep_16 : decode cX6_keep 16 = .ok (.iload_n 1, 1) := by decide +kernel
theorem dX6_keep_17 : decode cX6_keep 17 = .ok (.iconst 1, 1) := by decide +kernel
theorem dX6_keep_18 : decode cX6_keep 18 = .ok (.bastore, 1) := by decide +kernel
theorem dX6_keep_19 : decode cX6_keep 19 = .ok (.iconst 0, 1) := by decide +kernel
theorem dX6_keep_20 : decode cX6_keep 20 = .ok (.istore_n 2, 1) := by decide +kernel
theorem dX6_keep_21 : decode cX6_keep 21 = .ok (.iload_n 2, 1) := by decide +kernel
theorem dX6_keep_22 : decode cX6_keep 22 = .ok (.bipush 47, 2) := by decide +kernel
theorem dX6_keep_24 : decode cX6_keep 24 = .ok (.if_icmp .ge 26, 3) := by decide +kernel
theorem dX6_keep_27 : decode cX6_keep 27 = .ok (.aload_n 0, 1) := by decide +kernel
theorem dX6_keep_28 : decode cX6_keep 28 = .ok (.getfield 31, 3) := by decide +kernel
theorem dX6_keep_31 : decode cX6_keep 31 = .ok (.bipush 47, 2) := by decide +kernel
theorem dX6_keep_33 : decode cX6_keep 33 = .ok (.iload_n 1, 1) := by decide +kernel
theorem dX6_keep_34 : decode cX6_keep 34 = .ok (.imul, 1) := by decide +kernel
theorem dX6_keep_35 : decode cX6_keep 35 = .ok (.iload_n 2, 1) := by decide +kernel
theorem dX6_keep_36 : decode cX6_keep 36 = .ok (.iadd, 1) := by decide +kernel
theorem dX6_keep_37 : decode cX6_keep 37 = .ok (.aload_n 0, 1) := by decide +kernel
theorem dX6_keep_38 : decode cX6_keep 38 = .ok (.getfield 22, 3) := by decide +kernel
theorem dX6_keep_41 : decode cX6_keep 41 = .ok (.iload_n 2, 1) := by decide +kernel
theorem dX6_keep_42 : decode cX6_keep 42 = .ok (.iaload, 1) := by decide +kernel
theorem dX6_keep_43 : decode cX6_keep 43 = .ok (.iastore, 1) := by decide +kernel
theorem dX6_keep_44 : decode cX6_keep 44 = .ok (.iinc 2 1, 3) := by decide +kernel
theorem dX6_keep_47 : decode cX6_keep 47 = .ok (.goto (-26), 3) := by decide +kernel
theorem dX6_keep_50 : decode cX6_keep 50 = .ok (.aload_n 0, 1) := by decide +kernel
theorem dX6_keep_51 : decode cX6_keep 51 = .ok (.getfield 22, 3) := by decide +kernel
theorem dX6_keep_54 : decode cX6_keep 54 = .ok (.iconst 0, 1) := by decide +kernel
theorem dX6_keep_55 : decode cX6_keep 55 = .ok (.iaload, 1) := by decide +kernel
theorem dX6_keep_56 : decode cX6_keep 56 = .ok (.ireturn, 1) := by decide +kernel
theorem dX6_again_0 : decode cX6_again 0 = .ok (.iload_n 1, 1) := by decide +kernel
theorem dX6_again_1 : decode cX6_again 1 = .ok (.i2l, 1) := by decide +kernel
theorem dX6_again_2 : decode cX6_again 2 = .ok (.lconst 0, 1) := by decide +kernel
theorem dX6_again_3 : decode cX6_again 3 = .ok (.lconst 1, 1) := by decide +kernel
theorem dX6_again_4 : decode cX6_again 4 = .ok (.invokestatic 68, 3) := by decide +kernel
theorem dX6_again_7 : decode cX6_again 7 = .ok (.ifCond .ne 5, 3) := by decide +kernel
theorem dX6_again_10 : decode cX6_again 10 = .ok (.iconst (-1), 1) := by decide +kernel
theorem dX6_again_11 : decode cX6_again 11 = .ok (.ireturn, 1) := by decide +kernel
theorem dX6_again_12 : decode cX6_again 12 = .ok (.aload_n 0, 1) := by decide +kernel
theorem dX6_again_13 : decode cX6_again 13 = .ok (.getfield 34, 3) := by decide +kernel
theorem dX6_again_16 : decode cX6_again 16 = .ok (.iload_n 1, 1) := by decide +kernel
theorem dX6_again_17 : decode cX6_again 17 = .ok (.baload, 1) := by decide +kernel
theorem dX6_again_18 : decode cX6_again 18 = .ok (.ifCond .ne 6, 3) := by decide +kernel
theorem dX6_again_21 : decode cX6_again 21 = .ok (.bipush (-3), 2) := by decide +kernel
theorem dX6_again_23 : decode cX6_again 23 = .ok (.ireturn, 1) := by decide +kernel
theorem dX6_again_24 : decode cX6_again 24 = .ok (.iconst 0, 1) := by decide +kernel
theorem dX6_again_25 : decode cX6_again 25 = .ok (.istore_n 2, 1) := by decide +kernel
theorem dX6_again_26 : decode cX6_again 26 = .ok (.iload_n 2, 1) := by decide +kernel
theorem dX6_again_27 : decode cX6_again 27 = .ok (.bipush 47, 2) := by decide +kernel
theorem dX6_again_29 : decode cX6_again 29 = .ok (.if_icmp .ge 26, 3) := by decide +kernel
theorem dX6_again_32 : decode cX6_again 32 = .ok (.aload_n 0, 1) := by decide +kernel
theorem dX6_again_33 : decode cX6_again 33 = .ok (.getfield 22, 3) := by decide +kernel
theorem dX6_again_36 : decode cX6_again 36 = .ok (.iload_n 2, 1) := by decide +kernel
theorem dX6_again_37 : decode cX6_again 37 = .ok (.aload_n 0, 1) := by decide +kernel
theorem dX6_again_38 : decode cX6_again 38 = .ok (.getfield 31, 3) := by decide +kernel
theorem dX6_again_41 : decode cX6_again 41 = .ok (.bipush 47, 2) := by decide +kernel
theorem dX6_again_43 : decode cX6_again 43 = .ok (.iload_n 1, 1) := by decide +kernel
theorem dX6_again_44 : decode cX6_again 44 = .ok (.imul, 1) := by decide +kernel
theorem dX6_again_45 : decode cX6_again 45 = .ok (.iload_n 2, 1) := by decide +kernel
theorem dX6_again_46 : decode cX6_again 46 = .ok (.iadd, 1) := by decide +kernel
theorem dX6_again_47 : decode cX6_again 47 = .ok (.iaload, 1) := by decide +kernel
theorem dX6_again_48 : decode cX6_again 48 = .ok (.iastore, 1) := by decide +kernel
theorem dX6_again_49 : decode cX6_again 49 = .ok (.iinc 2 1, 3) := by decide +kernel
theorem dX6_again_52 : decode cX6_again 52 = .ok (.goto (-26), 3) := by decide +kernel
theorem dX6_again_55 : decode cX6_again 55 = .ok (.aload_n 0, 1) := by decide +kernel
theorem dX6_again_56 : decode cX6_again 56 = .ok (.iconst 0, 1) := by decide +kernel
theorem dX6_again_57 : decode cX6_again 57 = .ok (.putfield 118, 3) := by decide +kernel
theorem dX6_again_60 : decode cX6_again 60 = .ok (.aload_n 0, 1) := by decide +kernel
theorem dX6_again_61 : decode cX6_again 61 = .ok (.getfield 22, 3) := by decide +kernel
theorem dX6_again_64 : decode cX6_again 64 = .ok (.iconst 0, 1) := by decide +kernel
theorem dX6_again_65 : decode cX6_again 65 = .ok (.iaload, 1) := by decide +kernel
theorem dX6_again_66 : decode cX6_again 66 = .ok (.ireturn, 1) := by decide +kernel
end
section
theorem dL_law_0 : decode cL_law 0 = .ok (.new 7, 3) := by decide +kernel
theorem dL_law_3 : decode cL_law 3 = .ok (.dup, 1) := by decide +kernel
theorem dL_law_4 : decode cL_law 4 = .ok (.invokespecial 9, 3) := by decide +kernel
theorem dL_law_7 : decode cL_law 7 = .ok (.astore_n 1, 1) := by decide +kernel
theorem dL_law_8 : decode cL_law 8 = .ok (.new 10, 3) := by decide +kernel
theorem dL_law_11 : decode cL_law 11 = .ok (.dup, 1) := by decide +kernel
theorem dL_law_12 : decode cL_law 12 = .ok (.invokespecial 12, 3) := by decide +kernel
theorem dL_law_15 : decode cL_law 15 = .ok (.astore_n 2, 1) := by decide +kernel
theorem dL_law_16 : decode cL_law 16 = .ok (.iconst 0, 1) := by decide +kernel
theorem dL_law_17 : decode cL_law 17 = .ok (.istore_n 3, 1) := by decide +kernel
theorem dL_law_18 : decode cL_law 18 = .ok (.iload_n 3, 1) := by decide +kernel
theorem dL_law_19 : decode cL_law 19 = .ok (.aload_n 0, 1) := by decide +kernel
theorem dL_law_20 : decode cL_law 20 = .ok (.arraylength, 1) := by decide +kernel
theorem dL_law_21 : decode cL_law 21 = .ok (.iconst 5, 1) := by decide +kernel
theorem dL_law_22 : decode cL_law 22 = .ok (.isub, 1) := by decide +kernel
theorem dL_law_23 : decode cL_law 23 = .ok (.if_icmp .gt 1188, 3) := by decide +kernel
theorem dL_law_26 : decode cL_law 26 = .ok (.aload_n 0, 1) := by decide +kernel
theorem dL_law_27 : decode cL_law 27 = .ok (.iload_n 3, 1) := by decide +kernel
theorem dL_law_28 : decode cL_law 28 = .ok (.iaload, 1) := by decide +kernel
theorem dL_law_29 : decode cL_law 29 = .ok (.bipush 63, 2) := by decide +kernel
theorem dL_law_31 : decode cL_law 31 = .ok (.iand, 1) := by decide +kernel
theorem dL_law_32 : decode cL_law 32 = .ok (.tableswitch 1173 0 32 #[148, 171, 184, 197, 210, 233, 256, 279, 302, 351, 400, 433, 466, 499, 512, 545, 588, 621, 664, 697, 710, 723, 766, 789, 852, 895, 908, 922, 981, 1050, 1104, 1127, 1150], 148) := by decide +kernel
theorem dL_law_180 : decode cL_law 180 = .ok (.aload_n 1, 1) := by decide +kernel
theorem dL_law_181 : decode cL_law 181 = .ok (.aload_n 0, 1) := by decide +kernel
theorem dL_law_182 : decode cL_law 182 = .ok (.iload_n 3, 1) := by decide +kernel
theorem dL_law_183 : decode cL_law 183 = .ok (.iconst 1, 1) := by decide +kernel
theorem dL_law_184 : decode cL_law 184 = .ok (.iadd, 1) := by decide +kernel
theorem dL_law_185 : decode cL_law 185 = .ok (.iaload, 1) := by decide +kernel
theorem dL_law_186 : decode cL_law 186 = .ok (.invokevirtual 13, 3) := by decide +kernel
theorem dL_law_189 : decode cL_law 189 = .ok (.aload_n 2, 1) := by decide +kernel
theorem dL_law_190 : decode cL_law 190 = .ok (.aload_n 0, 1) := by decide +kernel
theorem dL_law_191 : decode cL_law 191 = .ok (.iload_n 3, 1) := by decide +kernel
theorem dL_law_192 : decode cL_law 192 = .ok (.iconst 1, 1) := by decide +kernel
theorem dL_law_193 : decode cL_law 193 = .ok (.iadd, 1) := by decide +kernel
theorem dL_law_194 : decode cL_law 194 = .ok (.iaload, 1) := by decide +kernel
theorem dL_law_195 : decode cL_law 195 = .ok (.invokevirtual 17, 3) := by decide +kernel
theorem dL_law_198 : decode cL_law 198 = .ok (.if_icmp .eq 1007, 3) := by decide +kernel
theorem dL_law_201 : decode cL_law 201 = .ok (.iconst 0, 1) := by decide +kernel
theorem dL_law_202 : decode cL_law 202 = .ok (.ireturn, 1) := by decide +kernel
theorem dL_law_203 : decode cL_law 203 = .ok (.aload_n 1, 1) := by decide +kernel
theorem dL_law_204 : decode cL_law 204 = .ok (.invokevirtual 18, 3) := by decide +kernel
theorem dL_law_207 : decode cL_law 207 = .ok (.aload_n 2, 1) := by decide +kernel
theorem dL_law_208 : decode cL_law 208 = .ok (.invokevirtual 22, 3) := by decide +kernel
theorem dL_law_211 : decode cL_law 211 = .ok (.if_icmp .eq 994, 3) := by decide +kernel
theorem dL_law_214 : decode cL_law 214 = .ok (.iconst 0, 1) := by decide +kernel
theorem dL_law_215 : decode cL_law 215 = .ok (.ireturn, 1) := by decide +kernel
theorem dL_law_216 : decode cL_law 216 = .ok (.aload_n 1, 1) := by decide +kernel
theorem dL_law_217 : decode cL_law 217 = .ok (.invokevirtual 23, 3) := by decide +kernel
theorem dL_law_220 : decode cL_law 220 = .ok (.aload_n 2, 1) := by decide +kernel
theorem dL_law_221 : decode cL_law 221 = .ok (.invokevirtual 26, 3) := by decide +kernel
theorem dL_law_224 : decode cL_law 224 = .ok (.if_icmp .eq 981, 3) := by decide +kernel
theorem dL_law_227 : decode cL_law 227 = .ok (.iconst 0, 1) := by decide +kernel
theorem dL_law_228 : decode cL_law 228 = .ok (.ireturn, 1) := by decide +kernel
theorem dL_law_229 : decode cL_law 229 = .ok (.aload_n 1, 1) := by decide +kernel
theorem dL_law_230 : decode cL_law 230 = .ok (.invokevirtual 27, 3) := by decide +kernel
theorem dL_law_233 : decode cL_law 233 = .ok (.aload_n 2, 1) := by decide +kernel
theorem dL_law_234 : decode cL_law 234 = .ok (.invokevirtual 30, 3) := by decide +kernel
theorem dL_law_237 : decode cL_law 237 = .ok (.if_icmp .eq 968, 3) := by decide +kernel
theorem dL_law_240 : decode cL_law 240 = .ok (.iconst 0, 1) := by decide +kernel
theorem dL_law_241 : decode cL_law 241 = .ok (.ireturn, 1) := by decide +kernel
theorem dL_law_242 : decode cL_law 242 = .ok (.aload_n 1, 1) := by decide +kernel
theorem dL_law_243 : decode cL_law 243 = .ok (.aload_n 0, 1) := by decide +kernel
theorem dL_law_244 : decode cL_law 244 = .ok (.iload_n 3, 1) := by decide +kernel
theorem dL_law_245 : decode cL_law 245 = .ok (.iconst 1, 1) := by decide +kernel
theorem dL_law_246 : decode cL_law 246 = .ok (.iadd, 1) := by decide +kernel
theorem dL_law_247 : decode cL_law 247 = .ok (.iaload, 1) := by decide +kernel
theorem dL_law_248 : decode cL_law 248 = .ok (.invokevirtual 31, 3) := by decide +kernel
theorem dL_law_251 : decode cL_law 251 = .ok (.aload_n 2, 1) := by decide +kernel
theorem dL_law_252 : decode cL_law 252 = .ok (.aload_n 0, 1) := by decide +kernel
theorem dL_law_253 : decode cL_law 253 = .ok (.iload_n 3, 1) := by decide +kernel
theorem dL_law_254 : decode cL_law 254 = .ok (.iconst 1, 1) := by decide +kernel
theorem dL_law_255 : decode cL_law 255 = .ok (.iadd, 1) := by decide +kernel
theorem dL_law_256 : decode cL_law 256 = .ok (.iaload, 1) := by decide +kernel
theorem dL_law_257 : decode cL_law 257 = .ok (.invokevirtual 34, 3) := by decide +kernel
theorem dL_law_260 : decode cL_law 260 = .ok (.if_icmp .eq 945, 3) := by decide +kernel
theorem dL_law_263 : decode cL_law 263 = .ok (.iconst 0, 1) := by decide +kernel
theorem dL_law_264 : decode cL_law 264 = .ok (.ireturn, 1) := by decide +kernel
theorem dL_law_265 : decode cL_law 265 = .ok (.aload_n 1, 1) := by decide +kernel
theorem dL_law_266 : decode cL_law 266 = .ok (.aload_n 0, 1) := by decide +kernel
theorem dL_law_267 : decode cL_law 267 = .ok (.iload_n 3, 1) := by decide +kernel
theorem dL_law_268 : decode cL_law 268 = .ok (.iconst 1, 1) := by decide +kernel
theorem dL_law_269 : decode cL_law 269 = .ok (.iadd, 1) := by decide +kernel
theorem dL_law_270 : decode cL_law 270 = .ok (.iaload, 1) := by decide +kernel
theorem dL_law_271 : decode cL_law 271 = .ok (.invokevirtual 35, 3) := by decide +kernel
theorem dL_law_274 : decode cL_law 274 = .ok (.aload_n 2, 1) := by decide +kernel
theorem dL_law_275 : decode cL_law 275 = .ok (.aload_n 0, 1) := by decide +kernel
theorem dL_law_276 : decode cL_law 276 = .ok (.iload_n 3, 1) := by decide +kernel
theorem dL_law_277 : decode cL_law 277 = .ok (.iconst 1, 1) := by decide +kernel
theorem dL_law_278 : decode cL_law 278 = .ok (.iadd, 1) := by decide +kernel
theorem dL_law_279 : decode cL_law 279 = .ok (.iaload, 1) := by decide +kernel
theorem dL_law_280 : decode cL_law 280 = .ok (.invokevirtual 38, 3) := by decide +kernel
theorem dL_law_283 : decode cL_law 283 = .ok (.if_icmp .eq 922, 3) := by decide +kernel
theorem dL_law_286 : decode cL_law 286 = .ok (.iconst 0, 1) := by decide +kernel
theorem dL_law_287 : decode cL_law 287 = .ok (.ireturn, 1) := by decide +kernel
theorem dL_law_288 : decode cL_law 288 = .ok (.aload_n 1, 1) := by decide +kernel
theorem dL_law_289 : decode cL_law 289 = .ok (.aload_n 0, 1) := by decide +kernel
theorem dL_law_290 : decode cL_law 290 = .ok (.iload_n 3, 1) := by decide +kernel
theorem dL_law_291 : decode cL_law 291 = .ok (.iconst 1, 1) := by decide +kernel
theorem dL_law_292 : decode cL_law 292 = .ok (.iadd, 1) := by decide +kernel
theorem dL_law_293 : decode cL_law 293 = .ok (.iaload, 1) := by decide +kernel
theorem dL_law_294 : decode cL_law 294 = .ok (.invokevirtual 39, 3) := by decide +kernel
theorem dL_law_297 : decode cL_law 297 = .ok (.aload_n 2, 1) := by decide +kernel
theorem dL_law_298 : decode cL_law 298 = .ok (.aload_n 0, 1) := by decide +kernel
theorem dL_law_299 : decode cL_law 299 = .ok (.iload_n 3, 1) := by decide +kernel
theorem dL_law_300 : decode cL_law 300 = .ok (.iconst 1, 1) := by decide +kernel
theorem dL_law_301 : decode cL_law 301 = .ok (.iadd, 1) := by decide +kernel
theorem dL_law_302 : decode cL_law 302 = .ok (.iaload, 1) := by decide +kernel
theorem dL_law_303 : decode cL_law 303 = .ok (.invokevirtual 42, 3) := by decide +kernel
theorem dL_law_306 : decode cL_law 306 = .ok (.if_icmp .eq 899, 3) := by decide +kernel
theorem dL_law_309 : decode cL_law 309 = .ok (.iconst 0, 1) := by decide +kernel
theorem dL_law_310 : decode cL_law 310 = .ok (.ireturn, 1) := by decide +kernel
theorem dL_law_311 : decode cL_law 311 = .ok (.aload_n 1, 1) := by decide +kernel
theorem dL_law_312 : decode cL_law 312 = .ok (.aload_n 0, 1) := by decide +kernel
theorem dL_law_313 : decode cL_law 313 = .ok (.iload_n 3, 1) := by decide +kernel
theorem dL_law_314 : decode cL_law 314 = .ok (.iconst 1, 1) := by decide +kernel
theorem dL_law_315 : decode cL_law 315 = .ok (.iadd, 1) := by decide +kernel
theorem dL_law_316 : decode cL_law 316 = .ok (.iaload, 1) := by decide +kernel
theorem dL_law_317 : decode cL_law 317 = .ok (.invokevirtual 43, 3) := by decide +kernel
theorem dL_law_320 : decode cL_law 320 = .ok (.aload_n 2, 1) := by decide +kernel
theorem dL_law_321 : decode cL_law 321 = .ok (.aload_n 0, 1) := by decide +kernel
theorem dL_law_322 : decode cL_law 322 = .ok (.iload_n 3, 1) := by decide +kernel
theorem dL_law_323 : decode cL_law 323 = .ok (.iconst 1, 1) := by decide +kernel
theorem dL_law_324 : decode cL_law 324 = .ok (.iadd, 1) := by decide +kernel
theorem dL_law_325 : decode cL_law 325 = .ok (.iaload, 1) := by decide +kernel
theorem dL_law_326 : decode cL_law 326 = .ok (.invokevirtual 46, 3) := by decide +kernel
theorem dL_law_329 : decode cL_law 329 = .ok (.if_icmp .eq 876, 3) := by decide +kernel
theorem dL_law_332 : decode cL_law 332 = .ok (.iconst 0, 1) := by decide +kernel
theorem dL_law_333 : decode cL_law 333 = .ok (.ireturn, 1) := by decide +kernel
theorem dL_law_334 : decode cL_law 334 = .ok (.aload_n 1, 1) := by decide +kernel
theorem dL_law_335 : decode cL_law 335 = .ok (.aload_n 0, 1) := by decide +kernel
theorem dL_law_336 : decode cL_law 336 = .ok (.iload_n 3, 1) := by decide +kernel
theorem dL_law_337 : decode cL_law 337 = .ok (.iconst 1, 1) := by decide +kernel
theorem dL_law_338 : decode cL_law 338 = .ok (.iadd, 1) := by decide +kernel
theorem dL_law_339 : decode cL_law 339 = .ok (.iaload, 1) := by decide +kernel
theorem dL_law_340 : decode cL_law 340 = .ok (.aload_n 0, 1) := by decide +kernel
theorem dL_law_341 : decode cL_law 341 = .ok (.iload_n 3, 1) := by decide +kernel
theorem dL_law_342 : decode cL_law 342 = .ok (.iconst 2, 1) := by decide +kernel
theorem dL_law_343 : decode cL_law 343 = .ok (.iadd, 1) := by decide +kernel
theorem dL_law_344 : decode cL_law 344 = .ok (.iaload, 1) := by decide +kernel
theorem dL_law_345 : decode cL_law 345 = .ok (.ifCond .eq 7, 3) := by decide +kernel
theorem dL_law_348 : decode cL_law 348 = .ok (.iconst 1, 1) := by decide +kernel
theorem dL_law_349 : decode cL_law 349 = .ok (.goto 4, 3) := by decide +kernel
theorem dL_law_352 : decode cL_law 352 = .ok (.iconst 0, 1) := by decide +kernel
theorem dL_law_353 : decode cL_law 353 = .ok (.invokevirtual 47, 3) := by decide +kernel
theorem dL_law_356 : decode cL_law 356 = .ok (.aload_n 2, 1) := by decide +kernel
theorem dL_law_357 : decode cL_law 357 = .ok (.aload_n 0, 1) := by decide +kernel
theorem dL_law_358 : decode cL_law 358 = .ok (.iload_n 3, 1) := by decide +kernel
theorem dL_law_359 : decode cL_law 359 = .ok (.iconst 1, 1) := by decide +kernel
theorem dL_law_360 : decode cL_law 360 = .ok (.iadd, 1) := by decide +kernel
theorem dL_law_361 : decode cL_law 361 = .ok (.iaload, 1) := by decide +kernel
theorem dL_law_362 : decode cL_law 362 = .ok (.aload_n 0, 1) := by decide +kernel
theorem dL_law_363 : decode cL_law 363 = .ok (.iload_n 3, 1) := by decide +kernel
theorem dL_law_364 : decode cL_law 364 = .ok (.iconst 2, 1) := by decide +kernel
theorem dL_law_365 : decode cL_law 365 = .ok (.iadd, 1) := by decide +kernel
theorem dL_law_366 : decode cL_law 366 = .ok (.iaload, 1) := by decide +kernel
theorem dL_law_367 : decode cL_law 367 = .ok (.ifCond .eq 7, 3) := by decide +kernel
theorem dL_law_370 : decode cL_law 370 = .ok (.iconst 1, 1) := by decide +kernel
theorem dL_law_371 : decode cL_law 371 = .ok (.goto 4, 3) := by decide +kernel
theorem dL_law_374 : decode cL_law 374 = .ok (.iconst 0, 1) := by decide +kernel
theorem dL_law_375 : decode cL_law 375 = .ok (.invokevirtual 51, 3) := by decide +kernel
theorem dL_law_378 : decode cL_law 378 = .ok (.if_icmp .eq 827, 3) := by decide +kernel
theorem dL_law_381 : decode cL_law 381 = .ok (.iconst 0, 1) := by decide +kernel
theorem dL_law_382 : decode cL_law 382 = .ok (.ireturn, 1) := by decide +kernel
theorem dL_law_383 : decode cL_law 383 = .ok (.aload_n 1, 1) := by decide +kernel
theorem dL_law_384 : decode cL_law 384 = .ok (.aload_n 0, 1) := by decide +kernel
theorem dL_law_385 : decode cL_law 385 = .ok (.iload_n 3, 1) := by decide +kernel
theorem dL_law_386 : decode cL_law 386 = .ok (.iconst 1, 1) := by decide +kernel
theorem dL_law_387 : decode cL_law 387 = .ok (.iadd, 1) := by decide +kernel
theorem dL_law_388 : decode cL_law 388 = .ok (.iaload, 1) := by decide +kernel
theorem dL_law_389 : decode cL_law 389 = .ok (.aload_n 0, 1) := by decide +kernel
theorem dL_law_390 : decode cL_law 390 = .ok (.iload_n 3, 1) := by decide +kernel
theorem dL_law_391 : decode cL_law 391 = .ok (.iconst 2, 1) := by decide +kernel
theorem dL_law_392 : decode cL_law 392 = .ok (.iadd, 1) := by decide +kernel
theorem dL_law_393 : decode cL_law 393 = .ok (.iaload, 1) := by decide +kernel
theorem dL_law_394 : decode cL_law 394 = .ok (.ifCond .eq 7, 3) := by decide +kernel
theorem dL_law_397 : decode cL_law 397 = .ok (.iconst 1, 1) := by decide +kernel
theorem dL_law_398 : decode cL_law 398 = .ok (.goto 4, 3) := by decide +kernel
theorem dL_law_401 : decode cL_law 401 = .ok (.iconst 0, 1) := by decide +kernel
theorem dL_law_402 : decode cL_law 402 = .ok (.invokevirtual 52, 3) := by decide +kernel
theorem dL_law_405 : decode cL_law 405 = .ok (.aload_n 2, 1) := by decide +kernel
theorem dL_law_406 : decode cL_law 406 = .ok (.aload_n 0, 1) := by decide +kernel
theorem dL_law_407 : decode cL_law 407 = .ok (.iload_n 3, 1) := by decide +kernel
theorem dL_law_408 : decode cL_law 408 = .ok (.iconst 1, 1) := by decide +kernel
theorem dL_law_409 : decode cL_law 409 = .ok (.iadd, 1) := by decide +kernel
theorem dL_law_410 : decode cL_law 410 = .ok (.iaload, 1) := by decide +kernel
theorem dL_law_411 : decode cL_law 411 = .ok (.aload_n 0, 1) := by decide +kernel
theorem dL_law_412 : decode cL_law 412 = .ok (.iload_n 3, 1) := by decide +kernel
theorem dL_law_413 : decode cL_law 413 = .ok (.iconst 2, 1) := by decide +kernel
theorem dL_law_414 : decode cL_law 414 = .ok (.iadd, 1) := by decide +kernel
theorem dL_law_415 : decode cL_law 415 = .ok (.iaload, 1) := by decide +kernel
theorem dL_law_416 : decode cL_law 416 = .ok (.ifCond .eq 7, 3) := by decide +kernel
theorem dL_law_419 : decode cL_law 419 = .ok (.iconst 1, 1) := by decide +kernel
theorem dL_law_420 : decode cL_law 420 = .ok (.goto 4, 3) := by decide +kernel
theorem dL_law_423 : decode cL_law 423 = .ok (.iconst 0, 1) := by decide +kernel
theorem dL_law_424 : decode cL_law 424 = .ok (.invokevirtual 55, 3) := by decide +kernel
theorem dL_law_427 : decode cL_law 427 = .ok (.if_icmp .eq 778, 3) := by decide +kernel
theorem dL_law_430 : decode cL_law 430 = .ok (.iconst 0, 1) := by decide +kernel
theorem dL_law_431 : decode cL_law 431 = .ok (.ireturn, 1) := by decide +kernel
theorem dL_law_432 : decode cL_law 432 = .ok (.aload_n 1, 1) := by decide +kernel
theorem dL_law_433 : decode cL_law 433 = .ok (.aload_n 0, 1) := by decide +kernel
theorem dL_law_434 : decode cL_law 434 = .ok (.iload_n 3, 1) := by decide +kernel
theorem dL_law_435 : decode cL_law 435 = .ok (.iconst 1, 1) := by decide +kernel
theorem dL_law_436 : decode cL_law 436 = .ok (.iadd, 1) := by decide +kernel
theorem dL_law_437 : decode cL_law 437 = .ok (.iaload, 1) := by decide +kernel
theorem dL_law_438 : decode cL_law 438 = .ok (.aload_n 0, 1) := by decide +kernel
theorem dL_law_439 : decode cL_law 439 = .ok (.iload_n 3, 1) := by decide +kernel
theorem dL_law_440 : decode cL_law 440 = .ok (.iconst 2, 1) := by decide +kernel
theorem dL_law_441 : decode cL_law 441 = .ok (.iadd, 1) := by decide +kernel
theorem dL_law_442 : decode cL_law 442 = .ok (.iaload, 1) := by decide +kernel
theorem dL_law_443 : decode cL_law 443 = .ok (.invokevirtual 56, 3) := by decide +kernel
theorem dL_law_446 : decode cL_law 446 = .ok (.aload_n 2, 1) := by decide +kernel
theorem dL_law_447 : decode cL_law 447 = .ok (.aload_n 0, 1) := by decide +kernel
theorem dL_law_448 : decode cL_law 448 = .ok (.iload_n 3, 1) := by decide +kernel
theorem dL_law_449 : decode cL_law 449 = .ok (.iconst 1, 1) := by decide +kernel
theorem dL_law_450 : decode cL_law 450 = .ok (.iadd, 1) := by decide +kernel
theorem dL_law_451 : decode cL_law 451 = .ok (.iaload, 1) := by decide +kernel
theorem dL_law_452 : decode cL_law 452 = .ok (.aload_n 0, 1) := by decide +kernel
theorem dL_law_453 : decode cL_law 453 = .ok (.iload_n 3, 1) := by decide +kernel
theorem dL_law_454 : decode cL_law 454 = .ok (.iconst 2, 1) := by decide +kernel
theorem dL_law_455 : decode cL_law 455 = .ok (.iadd, 1) := by decide +kernel
theorem dL_law_456 : decode cL_law 456 = .ok (.iaload, 1) := by decide +kernel
theorem dL_law_457 : decode cL_law 457 = .ok (.invokevirtual 60, 3) := by decide +kernel
theorem dL_law_460 : decode cL_law 460 = .ok (.if_icmp .eq 745, 3) := by decide +kernel
theorem dL_law_463 : decode cL_law 463 = .ok (.iconst 0, 1) := by decide +kernel
theorem dL_law_464 : decode cL_law 464 = .ok (.ireturn, 1) := by decide +kernel
theorem dL_law_465 : decode cL_law 465 = .ok (.aload_n 1, 1) := by decide +kernel
theorem dL_law_466 : decode cL_law 466 = .ok (.aload_n 0, 1) := by decide +kernel
theorem dL_law_467 : decode cL_law 467 = .ok (.iload_n 3, 1) := by decide +kernel
theorem dL_law_468 : decode cL_law 468 = .ok (.iconst 1, 1) := by decide +kernel
theorem dL_law_469 : decode cL_law 469 = .ok (.iadd, 1) := by decide +kernel
theorem dL_law_470 : decode cL_law 470 = .ok (.iaload, 1) := by decide +kernel
theorem dL_law_471 : decode cL_law 471 = .ok (.aload_n 0, 1) := by decide +kernel
theorem dL_law_472 : decode cL_law 472 = .ok (.iload_n 3, 1) := by decide +kernel
theorem dL_law_473 : decode cL_law 473 = .ok (.iconst 2, 1) := by decide +kernel
theorem dL_law_474 : decode cL_law 474 = .ok (.iadd, 1) := by decide +kernel
theorem dL_law_475 : decode cL_law 475 = .ok (.iaload, 1) := by decide +kernel
theorem dL_law_476 : decode cL_law 476 = .ok (.invokevirtual 61, 3) := by decide +kernel
theorem dL_law_479 : decode cL_law 479 = .ok (.aload_n 2, 1) := by decide +kernel
theorem dL_law_480 : decode cL_law 480 = .ok (.aload_n 0, 1) := by decide +kernel
theorem dL_law_481 : decode cL_law 481 = .ok (.iload_n 3, 1) := by decide +kernel
theorem dL_law_482 : decode cL_law 482 = .ok (.iconst 1, 1) := by decide +kernel
theorem dL_law_483 : decode cL_law 483 = .ok (.iadd, 1) := by decide +kernel
theorem dL_law_484 : decode cL_law 484 = .ok (.iaload, 1) := by decide +kernel
theorem dL_law_485 : decode cL_law 485 = .ok (.aload_n 0, 1) := by decide +kernel
theorem dL_law_486 : decode cL_law 486 = .ok (.iload_n 3, 1) := by decide +kernel
theorem dL_law_487 : decode cL_law 487 = .ok (.iconst 2, 1) := by decide +kernel
theorem dL_law_488 : decode cL_law 488 = .ok (.iadd, 1) := by decide +kernel
theorem dL_law_489 : decode cL_law 489 = .ok (.iaload, 1) := by decide +kernel
theorem dL_law_490 : decode cL_law 490 = .ok (.invokevirtual 64, 3) := by decide +kernel
theorem dL_law_493 : decode cL_law 493 = .ok (.if_icmp .eq 712, 3) := by decide +kernel
theorem dL_law_496 : decode cL_law 496 = .ok (.iconst 0, 1) := by decide +kernel
theorem dL_law_497 : decode cL_law 497 = .ok (.ireturn, 1) := by decide +kernel
theorem dL_law_498 : decode cL_law 498 = .ok (.aload_n 1, 1) := by decide +kernel
theorem dL_law_499 : decode cL_law 499 = .ok (.aload_n 0, 1) := by decide +kernel
theorem dL_law_500 : decode cL_law 500 = .ok (.iload_n 3, 1) := by decide +kernel
theorem dL_law_501 : decode cL_law 501 = .ok (.iconst 1, 1) := by decide +kernel
theorem dL_law_502 : decode cL_law 502 = .ok (.iadd, 1) := by decide +kernel
theorem dL_law_503 : decode cL_law 503 = .ok (.iaload, 1) := by decide +kernel
theorem dL_law_504 : decode cL_law 504 = .ok (.aload_n 0, 1) := by decide +kernel
theorem dL_law_505 : decode cL_law 505 = .ok (.iload_n 3, 1) := by decide +kernel
theorem dL_law_506 : decode cL_law 506 = .ok (.iconst 2, 1) := by decide +kernel
theorem dL_law_507 : decode cL_law 507 = .ok (.iadd, 1) := by decide +kernel
theorem dL_law_508 : decode cL_law 508 = .ok (.iaload, 1) := by decide +kernel
theorem dL_law_509 : decode cL_law 509 = .ok (.invokevirtual 65, 3) := by decide +kernel
theorem dL_law_512 : decode cL_law 512 = .ok (.aload_n 2, 1) := by decide +kernel
theorem dL_law_513 : decode cL_law 513 = .ok (.aload_n 0, 1) := by decide +kernel
theorem dL_law_514 : decode cL_law 514 = .ok (.iload_n 3, 1) := by decide +kernel
theorem dL_law_515 : decode cL_law 515 = .ok (.iconst 1, 1) := by decide +kernel
theorem dL_law_516 : decode cL_law 516 = .ok (.iadd, 1) := by decide +kernel
theorem dL_law_517 : decode cL_law 517 = .ok (.iaload, 1) := by decide +kernel
theorem dL_law_518 : decode cL_law 518 = .ok (.aload_n 0, 1) := by decide +kernel
theorem dL_law_519 : decode cL_law 519 = .ok (.iload_n 3, 1) := by decide +kernel
theorem dL_law_520 : decode cL_law 520 = .ok (.iconst 2, 1) := by decide +kernel
theorem dL_law_521 : decode cL_law 521 = .ok (.iadd, 1) := by decide +kernel
theorem dL_law_522 : decode cL_law 522 = .ok (.iaload, 1) := by decide +kernel
theorem dL_law_523 : decode cL_law 523 = .ok (.invokevirtual 68, 3) := by decide +kernel
theorem dL_law_526 : decode cL_law 526 = .ok (.if_icmp .eq 679, 3) := by decide +kernel
theorem dL_law_529 : decode cL_law 529 = .ok (.iconst 0, 1) := by decide +kernel
theorem dL_law_530 : decode cL_law 530 = .ok (.ireturn, 1) := by decide +kernel
theorem dL_law_531 : decode cL_law 531 = .ok (.aload_n 1, 1) := by decide +kernel
theorem dL_law_532 : decode cL_law 532 = .ok (.invokevirtual 69, 3) := by decide +kernel
theorem dL_law_535 : decode cL_law 535 = .ok (.aload_n 2, 1) := by decide +kernel
theorem dL_law_536 : decode cL_law 536 = .ok (.invokevirtual 72, 3) := by decide +kernel
theorem dL_law_539 : decode cL_law 539 = .ok (.if_icmp .eq 666, 3) := by decide +kernel
theorem dL_law_542 : decode cL_law 542 = .ok (.iconst 0, 1) := by decide +kernel
theorem dL_law_543 : decode cL_law 543 = .ok (.ireturn, 1) := by decide +kernel
theorem dL_law_544 : decode cL_law 544 = .ok (.aload_n 1, 1) := by decide +kernel
theorem dL_law_545 : decode cL_law 545 = .ok (.aload_n 0, 1) := by decide +kernel
theorem dL_law_546 : decode cL_law 546 = .ok (.iload_n 3, 1) := by decide +kernel
theorem dL_law_547 : decode cL_law 547 = .ok (.iconst 1, 1) := by decide +kernel
theorem dL_law_548 : decode cL_law 548 = .ok (.iadd, 1) := by decide +kernel
theorem dL_law_549 : decode cL_law 549 = .ok (.iaload, 1) := by decide +kernel
theorem dL_law_550 : decode cL_law 550 = .ok (.aload_n 0, 1) := by decide +kernel
theorem dL_law_551 : decode cL_law 551 = .ok (.iload_n 3, 1) := by decide +kernel
theorem dL_law_552 : decode cL_law 552 = .ok (.iconst 2, 1) := by decide +kernel
theorem dL_law_553 : decode cL_law 553 = .ok (.iadd, 1) := by decide +kernel
theorem dL_law_554 : decode cL_law 554 = .ok (.iaload, 1) := by decide +kernel
theorem dL_law_555 : decode cL_law 555 = .ok (.invokevirtual 73, 3) := by decide +kernel
theorem dL_law_558 : decode cL_law 558 = .ok (.aload_n 2, 1) := by decide +kernel
theorem dL_law_559 : decode cL_law 559 = .ok (.aload_n 0, 1) := by decide +kernel
theorem dL_law_560 : decode cL_law 560 = .ok (.iload_n 3, 1) := by decide +kernel
theorem dL_law_561 : decode cL_law 561 = .ok (.iconst 1, 1) := by decide +kernel
theorem dL_law_562 : decode cL_law 562 = .ok (.iadd, 1) := by decide +kernel
theorem dL_law_563 : decode cL_law 563 = .ok (.iaload, 1) := by decide +kernel
theorem dL_law_564 : decode cL_law 564 = .ok (.aload_n 0, 1) := by decide +kernel
theorem dL_law_565 : decode cL_law 565 = .ok (.iload_n 3, 1) := by decide +kernel
theorem dL_law_566 : decode cL_law 566 = .ok (.iconst 2, 1) := by decide +kernel
theorem dL_law_567 : decode cL_law 567 = .ok (.iadd, 1) := by decide +kernel
theorem dL_law_568 : decode cL_law 568 = .ok (.iaload, 1) := by decide +kernel
theorem dL_law_569 : decode cL_law 569 = .ok (.invokevirtual 76, 3) := by decide +kernel
theorem dL_law_572 : decode cL_law 572 = .ok (.if_icmp .eq 633, 3) := by decide +kernel
theorem dL_law_575 : decode cL_law 575 = .ok (.iconst 0, 1) := by decide +kernel
theorem dL_law_576 : decode cL_law 576 = .ok (.ireturn, 1) := by decide +kernel
theorem dL_law_577 : decode cL_law 577 = .ok (.aload_n 1, 1) := by decide +kernel
theorem dL_law_578 : decode cL_law 578 = .ok (.aload_n 0, 1) := by decide +kernel
theorem dL_law_579 : decode cL_law 579 = .ok (.iload_n 3, 1) := by decide +kernel
theorem dL_law_580 : decode cL_law 580 = .ok (.iconst 1, 1) := by decide +kernel
theorem dL_law_581 : decode cL_law 581 = .ok (.iadd, 1) := by decide +kernel
theorem dL_law_582 : decode cL_law 582 = .ok (.iaload, 1) := by decide +kernel
theorem dL_law_583 : decode cL_law 583 = .ok (.aload_n 0, 1) := by decide +kernel
theorem dL_law_584 : decode cL_law 584 = .ok (.iload_n 3, 1) := by decide +kernel
theorem dL_law_585 : decode cL_law 585 = .ok (.iconst 2, 1) := by decide +kernel
theorem dL_law_586 : decode cL_law 586 = .ok (.iadd, 1) := by decide +kernel
theorem dL_law_587 : decode cL_law 587 = .ok (.iaload, 1) := by decide +kernel
theorem dL_law_588 : decode cL_law 588 = .ok (.aload_n 0, 1) := by decide +kernel
theorem dL_law_589 : decode cL_law 589 = .ok (.iload_n 3, 1) := by decide +kernel
theorem dL_law_590 : decode cL_law 590 = .ok (.iconst 3, 1) := by decide +kernel
theorem dL_law_591 : decode cL_law 591 = .ok (.iadd, 1) := by decide +kernel
theorem dL_law_592 : decode cL_law 592 = .ok (.iaload, 1) := by decide +kernel
theorem dL_law_593 : decode cL_law 593 = .ok (.invokevirtual 77, 3) := by decide +kernel
theorem dL_law_596 : decode cL_law 596 = .ok (.aload_n 2, 1) := by decide +kernel
theorem dL_law_597 : decode cL_law 597 = .ok (.aload_n 0, 1) := by decide +kernel
theorem dL_law_598 : decode cL_law 598 = .ok (.iload_n 3, 1) := by decide +kernel
theorem dL_law_599 : decode cL_law 599 = .ok (.iconst 1, 1) := by decide +kernel
theorem dL_law_600 : decode cL_law 600 = .ok (.iadd, 1) := by decide +kernel
theorem dL_law_601 : decode cL_law 601 = .ok (.iaload, 1) := by decide +kernel
theorem dL_law_602 : decode cL_law 602 = .ok (.aload_n 0, 1) := by decide +kernel
theorem dL_law_603 : decode cL_law 603 = .ok (.iload_n 3, 1) := by decide +kernel
theorem dL_law_604 : decode cL_law 604 = .ok (.iconst 2, 1) := by decide +kernel
theorem dL_law_605 : decode cL_law 605 = .ok (.iadd, 1) := by decide +kernel
theorem dL_law_606 : decode cL_law 606 = .ok (.iaload, 1) := by decide +kernel
theorem dL_law_607 : decode cL_law 607 = .ok (.aload_n 0, 1) := by decide +kernel
theorem dL_law_608 : decode cL_law 608 = .ok (.iload_n 3, 1) := by decide +kernel
theorem dL_law_609 : decode cL_law 609 = .ok (.iconst 3, 1) := by decide +kernel
theorem dL_law_610 : decode cL_law 610 = .ok (.iadd, 1) := by decide +kernel
theorem dL_law_611 : decode cL_law 611 = .ok (.iaload, 1) := by decide +kernel
theorem dL_law_612 : decode cL_law 612 = .ok (.invokevirtual 81, 3) := by decide +kernel
theorem dL_law_615 : decode cL_law 615 = .ok (.if_icmp .eq 590, 3) := by decide +kernel
theorem dL_law_618 : decode cL_law 618 = .ok (.iconst 0, 1) := by decide +kernel
theorem dL_law_619 : decode cL_law 619 = .ok (.ireturn, 1) := by decide +kernel
theorem dL_law_620 : decode cL_law 620 = .ok (.aload_n 1, 1) := by decide +kernel
theorem dL_law_621 : decode cL_law 621 = .ok (.aload_n 0, 1) := by decide +kernel
theorem dL_law_622 : decode cL_law 622 = .ok (.iload_n 3, 1) := by decide +kernel
theorem dL_law_623 : decode cL_law 623 = .ok (.iconst 1, 1) := by decide +kernel
theorem dL_law_624 : decode cL_law 624 = .ok (.iadd, 1) := by decide +kernel
theorem dL_law_625 : decode cL_law 625 = .ok (.iaload, 1) := by decide +kernel
theorem dL_law_626 : decode cL_law 626 = .ok (.aload_n 0, 1) := by decide +kernel
theorem dL_law_627 : decode cL_law 627 = .ok (.iload_n 3, 1) := by decide +kernel
theorem dL_law_628 : decode cL_law 628 = .ok (.iconst 2, 1) := by decide +kernel
theorem dL_law_629 : decode cL_law 629 = .ok (.iadd, 1) := by decide +kernel
theorem dL_law_630 : decode cL_law 630 = .ok (.iaload, 1) := by decide +kernel
theorem dL_law_631 : decode cL_law 631 = .ok (.invokevirtual 82, 3) := by decide +kernel
theorem dL_law_634 : decode cL_law 634 = .ok (.aload_n 2, 1) := by decide +kernel
theorem dL_law_635 : decode cL_law 635 = .ok (.aload_n 0, 1) := by decide +kernel
theorem dL_law_636 : decode cL_law 636 = .ok (.iload_n 3, 1) := by decide +kernel
theorem dL_law_637 : decode cL_law 637 = .ok (.iconst 1, 1) := by decide +kernel
theorem dL_law_638 : decode cL_law 638 = .ok (.iadd, 1) := by decide +kernel
theorem dL_law_639 : decode cL_law 639 = .ok (.iaload, 1) := by decide +kernel
theorem dL_law_640 : decode cL_law 640 = .ok (.aload_n 0, 1) := by decide +kernel
theorem dL_law_641 : decode cL_law 641 = .ok (.iload_n 3, 1) := by decide +kernel
theorem dL_law_642 : decode cL_law 642 = .ok (.iconst 2, 1) := by decide +kernel
theorem dL_law_643 : decode cL_law 643 = .ok (.iadd, 1) := by decide +kernel
theorem dL_law_644 : decode cL_law 644 = .ok (.iaload, 1) := by decide +kernel
theorem dL_law_645 : decode cL_law 645 = .ok (.invokevirtual 85, 3) := by decide +kernel
theorem dL_law_648 : decode cL_law 648 = .ok (.if_icmp .eq 557, 3) := by decide +kernel
theorem dL_law_651 : decode cL_law 651 = .ok (.iconst 0, 1) := by decide +kernel
theorem dL_law_652 : decode cL_law 652 = .ok (.ireturn, 1) := by decide +kernel
theorem dL_law_653 : decode cL_law 653 = .ok (.aload_n 1, 1) := by decide +kernel
theorem dL_law_654 : decode cL_law 654 = .ok (.aload_n 0, 1) := by decide +kernel
theorem dL_law_655 : decode cL_law 655 = .ok (.iload_n 3, 1) := by decide +kernel
theorem dL_law_656 : decode cL_law 656 = .ok (.iconst 1, 1) := by decide +kernel
theorem dL_law_657 : decode cL_law 657 = .ok (.iadd, 1) := by decide +kernel
theorem dL_law_658 : decode cL_law 658 = .ok (.iaload, 1) := by decide +kernel
theorem dL_law_659 : decode cL_law 659 = .ok (.aload_n 0, 1) := by decide +kernel
theorem dL_law_660 : decode cL_law 660 = .ok (.iload_n 3, 1) := by decide +kernel
theorem dL_law_661 : decode cL_law 661 = .ok (.iconst 2, 1) := by decide +kernel
theorem dL_law_662 : decode cL_law 662 = .ok (.iadd, 1) := by decide +kernel
theorem dL_law_663 : decode cL_law 663 = .ok (.iaload, 1) := by decide +kernel
theorem dL_law_664 : decode cL_law 664 = .ok (.aload_n 0, 1) := by decide +kernel
theorem dL_law_665 : decode cL_law 665 = .ok (.iload_n 3, 1) := by decide +kernel
theorem dL_law_666 : decode cL_law 666 = .ok (.iconst 3, 1) := by decide +kernel
theorem dL_law_667 : decode cL_law 667 = .ok (.iadd, 1) := by decide +kernel
theorem dL_law_668 : decode cL_law 668 = .ok (.iaload, 1) := by decide +kernel
theorem dL_law_669 : decode cL_law 669 = .ok (.invokevirtual 86, 3) := by decide +kernel
theorem dL_law_672 : decode cL_law 672 = .ok (.aload_n 2, 1) := by decide +kernel
theorem dL_law_673 : decode cL_law 673 = .ok (.aload_n 0, 1) := by decide +kernel
theorem dL_law_674 : decode cL_law 674 = .ok (.iload_n 3, 1) := by decide +kernel
theorem dL_law_675 : decode cL_law 675 = .ok (.iconst 1, 1) := by decide +kernel
theorem dL_law_676 : decode cL_law 676 = .ok (.iadd, 1) := by decide +kernel
theorem dL_law_677 : decode cL_law 677 = .ok (.iaload, 1) := by decide +kernel
theorem dL_law_678 : decode cL_law 678 = .ok (.aload_n 0, 1) := by decide +kernel
theorem dL_law_679 : decode cL_law 679 = .ok (.iload_n 3, 1) := by decide +kernel
theorem dL_law_680 : decode cL_law 680 = .ok (.iconst 2, 1) := by decide +kernel
theorem dL_law_681 : decode cL_law 681 = .ok (.iadd, 1) := by decide +kernel
theorem dL_law_682 : decode cL_law 682 = .ok (.iaload, 1) := by decide +kernel
theorem dL_law_683 : decode cL_law 683 = .ok (.aload_n 0, 1) := by decide +kernel
theorem dL_law_684 : decode cL_law 684 = .ok (.iload_n 3, 1) := by decide +kernel
theorem dL_law_685 : decode cL_law 685 = .ok (.iconst 3, 1) := by decide +kernel
theorem dL_law_686 : decode cL_law 686 = .ok (.iadd, 1) := by decide +kernel
theorem dL_law_687 : decode cL_law 687 = .ok (.iaload, 1) := by decide +kernel
theorem dL_law_688 : decode cL_law 688 = .ok (.invokevirtual 89, 3) := by decide +kernel
theorem dL_law_691 : decode cL_law 691 = .ok (.if_icmp .eq 514, 3) := by decide +kernel
theorem dL_law_694 : decode cL_law 694 = .ok (.iconst 0, 1) := by decide +kernel
theorem dL_law_695 : decode cL_law 695 = .ok (.ireturn, 1) := by decide +kernel
theorem dL_law_696 : decode cL_law 696 = .ok (.aload_n 1, 1) := by decide +kernel
theorem dL_law_697 : decode cL_law 697 = .ok (.aload_n 0, 1) := by decide +kernel
theorem dL_law_698 : decode cL_law 698 = .ok (.iload_n 3, 1) := by decide +kernel
theorem dL_law_699 : decode cL_law 699 = .ok (.iconst 1, 1) := by decide +kernel
theorem dL_law_700 : decode cL_law 700 = .ok (.iadd, 1) := by decide +kernel
theorem dL_law_701 : decode cL_law 701 = .ok (.iaload, 1) := by decide +kernel
theorem dL_law_702 : decode cL_law 702 = .ok (.aload_n 0, 1) := by decide +kernel
theorem dL_law_703 : decode cL_law 703 = .ok (.iload_n 3, 1) := by decide +kernel
theorem dL_law_704 : decode cL_law 704 = .ok (.iconst 2, 1) := by decide +kernel
theorem dL_law_705 : decode cL_law 705 = .ok (.iadd, 1) := by decide +kernel
theorem dL_law_706 : decode cL_law 706 = .ok (.iaload, 1) := by decide +kernel
theorem dL_law_707 : decode cL_law 707 = .ok (.invokevirtual 90, 3) := by decide +kernel
theorem dL_law_710 : decode cL_law 710 = .ok (.aload_n 2, 1) := by decide +kernel
theorem dL_law_711 : decode cL_law 711 = .ok (.aload_n 0, 1) := by decide +kernel
theorem dL_law_712 : decode cL_law 712 = .ok (.iload_n 3, 1) := by decide +kernel
theorem dL_law_713 : decode cL_law 713 = .ok (.iconst 1, 1) := by decide +kernel
theorem dL_law_714 : decode cL_law 714 = .ok (.iadd, 1) := by decide +kernel
theorem dL_law_715 : decode cL_law 715 = .ok (.iaload, 1) := by decide +kernel
theorem dL_law_716 : decode cL_law 716 = .ok (.aload_n 0, 1) := by decide +kernel
theorem dL_law_717 : decode cL_law 717 = .ok (.iload_n 3, 1) := by decide +kernel
theorem dL_law_718 : decode cL_law 718 = .ok (.iconst 2, 1) := by decide +kernel
theorem dL_law_719 : decode cL_law 719 = .ok (.iadd, 1) := by decide +kernel
theorem dL_law_720 : decode cL_law 720 = .ok (.iaload, 1) := by decide +kernel
theorem dL_law_721 : decode cL_law 721 = .ok (.invokevirtual 93, 3) := by decide +kernel
theorem dL_law_724 : decode cL_law 724 = .ok (.if_icmp .eq 481, 3) := by decide +kernel
theorem dL_law_727 : decode cL_law 727 = .ok (.iconst 0, 1) := by decide +kernel
theorem dL_law_728 : decode cL_law 728 = .ok (.ireturn, 1) := by decide +kernel
theorem dL_law_729 : decode cL_law 729 = .ok (.aload_n 1, 1) := by decide +kernel
theorem dL_law_730 : decode cL_law 730 = .ok (.invokevirtual 94, 3) := by decide +kernel
theorem dL_law_733 : decode cL_law 733 = .ok (.aload_n 2, 1) := by decide +kernel
theorem dL_law_734 : decode cL_law 734 = .ok (.invokevirtual 97, 3) := by decide +kernel
theorem dL_law_737 : decode cL_law 737 = .ok (.if_icmp .eq 468, 3) := by decide +kernel
theorem dL_law_740 : decode cL_law 740 = .ok (.iconst 0, 1) := by decide +kernel
theorem dL_law_741 : decode cL_law 741 = .ok (.ireturn, 1) := by decide +kernel
theorem dL_law_742 : decode cL_law 742 = .ok (.aload_n 1, 1) := by decide +kernel
theorem dL_law_743 : decode cL_law 743 = .ok (.invokevirtual 98, 3) := by decide +kernel
theorem dL_law_746 : decode cL_law 746 = .ok (.aload_n 2, 1) := by decide +kernel
theorem dL_law_747 : decode cL_law 747 = .ok (.invokevirtual 101, 3) := by decide +kernel
theorem dL_law_750 : decode cL_law 750 = .ok (.if_icmp .eq 455, 3) := by decide +kernel
theorem dL_law_753 : decode cL_law 753 = .ok (.iconst 0, 1) := by decide +kernel
theorem dL_law_754 : decode cL_law 754 = .ok (.ireturn, 1) := by decide +kernel
theorem dL_law_755 : decode cL_law 755 = .ok (.aload_n 1, 1) := by decide +kernel
theorem dL_law_756 : decode cL_law 756 = .ok (.aload_n 0, 1) := by decide +kernel
theorem dL_law_757 : decode cL_law 757 = .ok (.iload_n 3, 1) := by decide +kernel
theorem dL_law_758 : decode cL_law 758 = .ok (.iconst 1, 1) := by decide +kernel
theorem dL_law_759 : decode cL_law 759 = .ok (.iadd, 1) := by decide +kernel
theorem dL_law_760 : decode cL_law 760 = .ok (.iaload, 1) := by decide +kernel
theorem dL_law_761 : decode cL_law 761 = .ok (.aload_n 0, 1) := by decide +kernel
theorem dL_law_762 : decode cL_law 762 = .ok (.iload_n 3, 1) := by decide +kernel
theorem dL_law_763 : decode cL_law 763 = .ok (.iconst 2, 1) := by decide +kernel
theorem dL_law_764 : decode cL_law 764 = .ok (.iadd, 1) := by decide +kernel
theorem dL_law_765 : decode cL_law 765 = .ok (.iaload, 1) := by decide +kernel
theorem dL_law_766 : decode cL_law 766 = .ok (.aload_n 0, 1) := by decide +kernel
theorem dL_law_767 : decode cL_law 767 = .ok (.iload_n 3, 1) := by decide +kernel
theorem dL_law_768 : decode cL_law 768 = .ok (.iconst 3, 1) := by decide +kernel
theorem dL_law_769 : decode cL_law 769 = .ok (.iadd, 1) := by decide +kernel
theorem dL_law_770 : decode cL_law 770 = .ok (.iaload, 1) := by decide +kernel
theorem dL_law_771 : decode cL_law 771 = .ok (.invokevirtual 102, 3) := by decide +kernel
theorem dL_law_774 : decode cL_law 774 = .ok (.aload_n 2, 1) := by decide +kernel
theorem dL_law_775 : decode cL_law 775 = .ok (.aload_n 0, 1) := by decide +kernel
theorem dL_law_776 : decode cL_law 776 = .ok (.iload_n 3, 1) := by decide +kernel
theorem dL_law_777 : decode cL_law 777 = .ok (.iconst 1, 1) := by decide +kernel
theorem dL_law_778 : decode cL_law 778 = .ok (.iadd, 1) := by decide +kernel
theorem dL_law_779 : decode cL_law 779 = .ok (.iaload, 1) := by decide +kernel
theorem dL_law_780 : decode cL_law 780 = .ok (.aload_n 0, 1) := by decide +kernel
theorem dL_law_781 : decode cL_law 781 = .ok (.iload_n 3, 1) := by decide +kernel
theorem dL_law_782 : decode cL_law 782 = .ok (.iconst 2, 1) := by decide +kernel
theorem dL_law_783 : decode cL_law 783 = .ok (.iadd, 1) := by decide +kernel
theorem dL_law_784 : decode cL_law 784 = .ok (.iaload, 1) := by decide +kernel
theorem dL_law_785 : decode cL_law 785 = .ok (.aload_n 0, 1) := by decide +kernel
theorem dL_law_786 : decode cL_law 786 = .ok (.iload_n 3, 1) := by decide +kernel
theorem dL_law_787 : decode cL_law 787 = .ok (.iconst 3, 1) := by decide +kernel
theorem dL_law_788 : decode cL_law 788 = .ok (.iadd, 1) := by decide +kernel
theorem dL_law_789 : decode cL_law 789 = .ok (.iaload, 1) := by decide +kernel
theorem dL_law_790 : decode cL_law 790 = .ok (.invokevirtual 105, 3) := by decide +kernel
theorem dL_law_793 : decode cL_law 793 = .ok (.if_icmp .eq 412, 3) := by decide +kernel
theorem dL_law_796 : decode cL_law 796 = .ok (.iconst 0, 1) := by decide +kernel
theorem dL_law_797 : decode cL_law 797 = .ok (.ireturn, 1) := by decide +kernel
theorem dL_law_798 : decode cL_law 798 = .ok (.aload_n 1, 1) := by decide +kernel
theorem dL_law_799 : decode cL_law 799 = .ok (.aload_n 0, 1) := by decide +kernel
theorem dL_law_800 : decode cL_law 800 = .ok (.iload_n 3, 1) := by decide +kernel
theorem dL_law_801 : decode cL_law 801 = .ok (.iconst 1, 1) := by decide +kernel
theorem dL_law_802 : decode cL_law 802 = .ok (.iadd, 1) := by decide +kernel
theorem dL_law_803 : decode cL_law 803 = .ok (.iaload, 1) := by decide +kernel
theorem dL_law_804 : decode cL_law 804 = .ok (.invokevirtual 106, 3) := by decide +kernel
theorem dL_law_807 : decode cL_law 807 = .ok (.aload_n 2, 1) := by decide +kernel
theorem dL_law_808 : decode cL_law 808 = .ok (.aload_n 0, 1) := by decide +kernel
theorem dL_law_809 : decode cL_law 809 = .ok (.iload_n 3, 1) := by decide +kernel
theorem dL_law_810 : decode cL_law 810 = .ok (.iconst 1, 1) := by decide +kernel
theorem dL_law_811 : decode cL_law 811 = .ok (.iadd, 1) := by decide +kernel
theorem dL_law_812 : decode cL_law 812 = .ok (.iaload, 1) := by decide +kernel
theorem dL_law_813 : decode cL_law 813 = .ok (.invokevirtual 109, 3) := by decide +kernel
theorem dL_law_816 : decode cL_law 816 = .ok (.if_icmp .eq 389, 3) := by decide +kernel
theorem dL_law_819 : decode cL_law 819 = .ok (.iconst 0, 1) := by decide +kernel
theorem dL_law_820 : decode cL_law 820 = .ok (.ireturn, 1) := by decide +kernel
theorem dL_law_821 : decode cL_law 821 = .ok (.aload_n 1, 1) := by decide +kernel
theorem dL_law_822 : decode cL_law 822 = .ok (.aload_n 0, 1) := by decide +kernel
theorem dL_law_823 : decode cL_law 823 = .ok (.iload_n 3, 1) := by decide +kernel
theorem dL_law_824 : decode cL_law 824 = .ok (.iconst 1, 1) := by decide +kernel
theorem dL_law_825 : decode cL_law 825 = .ok (.iadd, 1) := by decide +kernel
theorem dL_law_826 : decode cL_law 826 = .ok (.iaload, 1) := by decide +kernel
theorem dL_law_827 : decode cL_law 827 = .ok (.aload_n 0, 1) := by decide +kernel
theorem dL_law_828 : decode cL_law 828 = .ok (.iload_n 3, 1) := by decide +kernel
theorem dL_law_829 : decode cL_law 829 = .ok (.iconst 2, 1) := by decide +kernel
theorem dL_law_830 : decode cL_law 830 = .ok (.iadd, 1) := by decide +kernel
theorem dL_law_831 : decode cL_law 831 = .ok (.iaload, 1) := by decide +kernel
theorem dL_law_832 : decode cL_law 832 = .ok (.i2l, 1) := by decide +kernel
theorem dL_law_833 : decode cL_law 833 = .ok (.bipush 32, 2) := by decide +kernel
theorem dL_law_835 : decode cL_law 835 = .ok (.lshl, 1) := by decide +kernel
theorem dL_law_836 : decode cL_law 836 = .ok (.aload_n 0, 1) := by decide +kernel
theorem dL_law_837 : decode cL_law 837 = .ok (.iload_n 3, 1) := by decide +kernel
theorem dL_law_838 : decode cL_law 838 = .ok (.iconst 3, 1) := by decide +kernel
theorem dL_law_839 : decode cL_law 839 = .ok (.iadd, 1) := by decide +kernel
theorem dL_law_840 : decode cL_law 840 = .ok (.iaload, 1) := by decide +kernel
theorem dL_law_841 : decode cL_law 841 = .ok (.i2l, 1) := by decide +kernel
theorem dL_law_842 : decode cL_law 842 = .ok (.ldc2_w 110, 3) := by decide +kernel
theorem dL_law_845 : decode cL_law 845 = .ok (.land, 1) := by decide +kernel
theorem dL_law_846 : decode cL_law 846 = .ok (.lor, 1) := by decide +kernel
theorem dL_law_847 : decode cL_law 847 = .ok (.invokevirtual 112, 3) := by decide +kernel
theorem dL_law_850 : decode cL_law 850 = .ok (.aload_n 2, 1) := by decide +kernel
theorem dL_law_851 : decode cL_law 851 = .ok (.aload_n 0, 1) := by decide +kernel
theorem dL_law_852 : decode cL_law 852 = .ok (.iload_n 3, 1) := by decide +kernel
theorem dL_law_853 : decode cL_law 853 = .ok (.iconst 1, 1) := by decide +kernel
theorem dL_law_854 : decode cL_law 854 = .ok (.iadd, 1) := by decide +kernel
theorem dL_law_855 : decode cL_law 855 = .ok (.iaload, 1) := by decide +kernel
theorem dL_law_856 : decode cL_law 856 = .ok (.aload_n 0, 1) := by decide +kernel
theorem dL_law_857 : decode cL_law 857 = .ok (.iload_n 3, 1) := by decide +kernel
theorem dL_law_858 : decode cL_law 858 = .ok (.iconst 2, 1) := by decide +kernel
theorem dL_law_859 : decode cL_law 859 = .ok (.iadd, 1) := by decide +kernel
theorem dL_law_860 : decode cL_law 860 = .ok (.iaload, 1) := by decide +kernel
theorem dL_law_861 : decode cL_law 861 = .ok (.i2l, 1) := by decide +kernel
theorem dL_law_862 : decode cL_law 862 = .ok (.bipush 32, 2) := by decide +kernel
theorem dL_law_864 : decode cL_law 864 = .ok (.lshl, 1) := by decide +kernel
theorem dL_law_865 : decode cL_law 865 = .ok (.aload_n 0, 1) := by decide +kernel
theorem dL_law_866 : decode cL_law 866 = .ok (.iload_n 3, 1) := by decide +kernel
theorem dL_law_867 : decode cL_law 867 = .ok (.iconst 3, 1) := by decide +kernel
theorem dL_law_868 : decode cL_law 868 = .ok (.iadd, 1) := by decide +kernel
theorem dL_law_869 : decode cL_law 869 = .ok (.iaload, 1) := by decide +kernel
theorem dL_law_870 : decode cL_law 870 = .ok (.i2l, 1) := by decide +kernel
theorem dL_law_871 : decode cL_law 871 = .ok (.ldc2_w 110, 3) := by decide +kernel
theorem dL_law_874 : decode cL_law 874 = .ok (.land, 1) := by decide +kernel
theorem dL_law_875 : decode cL_law 875 = .ok (.lor, 1) := by decide +kernel
theorem dL_law_876 : decode cL_law 876 = .ok (.invokevirtual 116, 3) := by decide +kernel
theorem dL_law_879 : decode cL_law 879 = .ok (.if_icmp .eq 326, 3) := by decide +kernel
theorem dL_law_882 : decode cL_law 882 = .ok (.iconst 0, 1) := by decide +kernel
theorem dL_law_883 : decode cL_law 883 = .ok (.ireturn, 1) := by decide +kernel
theorem dL_law_884 : decode cL_law 884 = .ok (.aload_n 1, 1) := by decide +kernel
theorem dL_law_885 : decode cL_law 885 = .ok (.aload_n 0, 1) := by decide +kernel
theorem dL_law_886 : decode cL_law 886 = .ok (.iload_n 3, 1) := by decide +kernel
theorem dL_law_887 : decode cL_law 887 = .ok (.iconst 1, 1) := by decide +kernel
theorem dL_law_888 : decode cL_law 888 = .ok (.iadd, 1) := by decide +kernel
theorem dL_law_889 : decode cL_law 889 = .ok (.iaload, 1) := by decide +kernel
theorem dL_law_890 : decode cL_law 890 = .ok (.aload_n 0, 1) := by decide +kernel
theorem dL_law_891 : decode cL_law 891 = .ok (.iload_n 3, 1) := by decide +kernel
theorem dL_law_892 : decode cL_law 892 = .ok (.iconst 2, 1) := by decide +kernel
theorem dL_law_893 : decode cL_law 893 = .ok (.iadd, 1) := by decide +kernel
theorem dL_law_894 : decode cL_law 894 = .ok (.iaload, 1) := by decide +kernel
theorem dL_law_895 : decode cL_law 895 = .ok (.aload_n 0, 1) := by decide +kernel
theorem dL_law_896 : decode cL_law 896 = .ok (.iload_n 3, 1) := by decide +kernel
theorem dL_law_897 : decode cL_law 897 = .ok (.iconst 3, 1) := by decide +kernel
theorem dL_law_898 : decode cL_law 898 = .ok (.iadd, 1) := by decide +kernel
theorem dL_law_899 : decode cL_law 899 = .ok (.iaload, 1) := by decide +kernel
theorem dL_law_900 : decode cL_law 900 = .ok (.invokevirtual 117, 3) := by decide +kernel
theorem dL_law_903 : decode cL_law 903 = .ok (.aload_n 2, 1) := by decide +kernel
theorem dL_law_904 : decode cL_law 904 = .ok (.aload_n 0, 1) := by decide +kernel
theorem dL_law_905 : decode cL_law 905 = .ok (.iload_n 3, 1) := by decide +kernel
theorem dL_law_906 : decode cL_law 906 = .ok (.iconst 1, 1) := by decide +kernel
theorem dL_law_907 : decode cL_law 907 = .ok (.iadd, 1) := by decide +kernel
theorem dL_law_908 : decode cL_law 908 = .ok (.iaload, 1) := by decide +kernel
theorem dL_law_909 : decode cL_law 909 = .ok (.aload_n 0, 1) := by decide +kernel
theorem dL_law_910 : decode cL_law 910 = .ok (.iload_n 3, 1) := by decide +kernel
theorem dL_law_911 : decode cL_law 911 = .ok (.iconst 2, 1) := by decide +kernel
theorem dL_law_912 : decode cL_law 912 = .ok (.iadd, 1) := by decide +kernel
theorem dL_law_913 : decode cL_law 913 = .ok (.iaload, 1) := by decide +kernel
theorem dL_law_914 : decode cL_law 914 = .ok (.aload_n 0, 1) := by decide +kernel
theorem dL_law_915 : decode cL_law 915 = .ok (.iload_n 3, 1) := by decide +kernel
theorem dL_law_916 : decode cL_law 916 = .ok (.iconst 3, 1) := by decide +kernel
theorem dL_law_917 : decode cL_law 917 = .ok (.iadd, 1) := by decide +kernel
theorem dL_law_918 : decode cL_law 918 = .ok (.iaload, 1) := by decide +kernel
theorem dL_law_919 : decode cL_law 919 = .ok (.invokevirtual 120, 3) := by decide +kernel
theorem dL_law_922 : decode cL_law 922 = .ok (.if_icmp .eq 283, 3) := by decide +kernel
theorem dL_law_925 : decode cL_law 925 = .ok (.iconst 0, 1) := by decide +kernel
theorem dL_law_926 : decode cL_law 926 = .ok (.ireturn, 1) := by decide +kernel
theorem dL_law_927 : decode cL_law 927 = .ok (.aload_n 1, 1) := by decide +kernel
theorem dL_law_928 : decode cL_law 928 = .ok (.invokevirtual 121, 3) := by decide +kernel
theorem dL_law_931 : decode cL_law 931 = .ok (.aload_n 2, 1) := by decide +kernel
theorem dL_law_932 : decode cL_law 932 = .ok (.invokevirtual 124, 3) := by decide +kernel
theorem dL_law_935 : decode cL_law 935 = .ok (.if_icmp .eq 270, 3) := by decide +kernel
theorem dL_law_938 : decode cL_law 938 = .ok (.iconst 0, 1) := by decide +kernel
theorem dL_law_939 : decode cL_law 939 = .ok (.ireturn, 1) := by decide +kernel
theorem dL_law_940 : decode cL_law 940 = .ok (.aload_n 1, 1) := by decide +kernel
theorem dL_law_941 : decode cL_law 941 = .ok (.invokevirtual 125, 3) := by decide +kernel
theorem dL_law_944 : decode cL_law 944 = .ok (.aload_n 2, 1) := by decide +kernel
theorem dL_law_945 : decode cL_law 945 = .ok (.invokevirtual 129, 3) := by decide +kernel
theorem dL_law_948 : decode cL_law 948 = .ok (.lcmp, 1) := by decide +kernel
theorem dL_law_949 : decode cL_law 949 = .ok (.ifCond .eq 256, 3) := by decide +kernel
theorem dL_law_952 : decode cL_law 952 = .ok (.iconst 0, 1) := by decide +kernel
theorem dL_law_953 : decode cL_law 953 = .ok (.ireturn, 1) := by decide +kernel
theorem dL_law_954 : decode cL_law 954 = .ok (.aload_n 1, 1) := by decide +kernel
theorem dL_law_955 : decode cL_law 955 = .ok (.aload_n 0, 1) := by decide +kernel
theorem dL_law_956 : decode cL_law 956 = .ok (.iload_n 3, 1) := by decide +kernel
theorem dL_law_957 : decode cL_law 957 = .ok (.iconst 1, 1) := by decide +kernel
theorem dL_law_958 : decode cL_law 958 = .ok (.iadd, 1) := by decide +kernel
theorem dL_law_959 : decode cL_law 959 = .ok (.iaload, 1) := by decide +kernel
theorem dL_law_960 : decode cL_law 960 = .ok (.aload_n 0, 1) := by decide +kernel
theorem dL_law_961 : decode cL_law 961 = .ok (.iload_n 3, 1) := by decide +kernel
theorem dL_law_962 : decode cL_law 962 = .ok (.iconst 2, 1) := by decide +kernel
theorem dL_law_963 : decode cL_law 963 = .ok (.iadd, 1) := by decide +kernel
theorem dL_law_964 : decode cL_law 964 = .ok (.iaload, 1) := by decide +kernel
theorem dL_law_965 : decode cL_law 965 = .ok (.aload_n 0, 1) := by decide +kernel
theorem dL_law_966 : decode cL_law 966 = .ok (.iload_n 3, 1) := by decide +kernel
theorem dL_law_967 : decode cL_law 967 = .ok (.iconst 3, 1) := by decide +kernel
theorem dL_law_968 : decode cL_law 968 = .ok (.iadd, 1) := by decide +kernel
theorem dL_law_969 : decode cL_law 969 = .ok (.iaload, 1) := by decide +kernel
theorem dL_law_970 : decode cL_law 970 = .ok (.ifCond .eq 7, 3) := by decide +kernel
theorem dL_law_973 : decode cL_law 973 = .ok (.iconst 1, 1) := by decide +kernel
theorem dL_law_974 : decode cL_law 974 = .ok (.goto 4, 3) := by decide +kernel
theorem dL_law_977 : decode cL_law 977 = .ok (.iconst 0, 1) := by decide +kernel
theorem dL_law_978 : decode cL_law 978 = .ok (.invokevirtual 130, 3) := by decide +kernel
theorem dL_law_981 : decode cL_law 981 = .ok (.aload_n 2, 1) := by decide +kernel
theorem dL_law_982 : decode cL_law 982 = .ok (.aload_n 0, 1) := by decide +kernel
theorem dL_law_983 : decode cL_law 983 = .ok (.iload_n 3, 1) := by decide +kernel
theorem dL_law_984 : decode cL_law 984 = .ok (.iconst 1, 1) := by decide +kernel
theorem dL_law_985 : decode cL_law 985 = .ok (.iadd, 1) := by decide +kernel
theorem dL_law_986 : decode cL_law 986 = .ok (.iaload, 1) := by decide +kernel
theorem dL_law_987 : decode cL_law 987 = .ok (.aload_n 0, 1) := by decide +kernel
theorem dL_law_988 : decode cL_law 988 = .ok (.iload_n 3, 1) := by decide +kernel
theorem dL_law_989 : decode cL_law 989 = .ok (.iconst 2, 1) := by decide +kernel
theorem dL_law_990 : decode cL_law 990 = .ok (.iadd, 1) := by decide +kernel
theorem dL_law_991 : decode cL_law 991 = .ok (.iaload, 1) := by decide +kernel
theorem dL_law_992 : decode cL_law 992 = .ok (.aload_n 0, 1) := by decide +kernel
theorem dL_law_993 : decode cL_law 993 = .ok (.iload_n 3, 1) := by decide +kernel
theorem dL_law_994 : decode cL_law 994 = .ok (.iconst 3, 1) := by decide +kernel
theorem dL_law_995 : decode cL_law 995 = .ok (.iadd, 1) := by decide +kernel
theorem dL_law_996 : decode cL_law 996 = .ok (.iaload, 1) := by decide +kernel
theorem dL_law_997 : decode cL_law 997 = .ok (.ifCond .eq 7, 3) := by decide +kernel
theorem dL_law_1000 : decode cL_law 1000 = .ok (.iconst 1, 1) := by decide +kernel
theorem dL_law_1001 : decode cL_law 1001 = .ok (.goto 4, 3) := by decide +kernel
theorem dL_law_1004 : decode cL_law 1004 = .ok (.iconst 0, 1) := by decide +kernel
theorem dL_law_1005 : decode cL_law 1005 = .ok (.invokevirtual 134, 3) := by decide +kernel
theorem dL_law_1008 : decode cL_law 1008 = .ok (.if_icmp .eq 197, 3) := by decide +kernel
theorem dL_law_1011 : decode cL_law 1011 = .ok (.iconst 0, 1) := by decide +kernel
theorem dL_law_1012 : decode cL_law 1012 = .ok (.ireturn, 1) := by decide +kernel
theorem dL_law_1013 : decode cL_law 1013 = .ok (.aload_n 1, 1) := by decide +kernel
theorem dL_law_1014 : decode cL_law 1014 = .ok (.aload_n 0, 1) := by decide +kernel
theorem dL_law_1015 : decode cL_law 1015 = .ok (.iload_n 3, 1) := by decide +kernel
theorem dL_law_1016 : decode cL_law 1016 = .ok (.iconst 1, 1) := by decide +kernel
theorem dL_law_1017 : decode cL_law 1017 = .ok (.iadd, 1) := by decide +kernel
theorem dL_law_1018 : decode cL_law 1018 = .ok (.iaload, 1) := by decide +kernel
theorem dL_law_1019 : decode cL_law 1019 = .ok (.aload_n 0, 1) := by decide +kernel
theorem dL_law_1020 : decode cL_law 1020 = .ok (.iload_n 3, 1) := by decide +kernel
theorem dL_law_1021 : decode cL_law 1021 = .ok (.iconst 2, 1) := by decide +kernel
theorem dL_law_1022 : decode cL_law 1022 = .ok (.iadd, 1) := by decide +kernel
theorem dL_law_1023 : decode cL_law 1023 = .ok (.iaload, 1) := by decide +kernel
theorem dL_law_1024 : decode cL_law 1024 = .ok (.aload_n 0, 1) := by decide +kernel
theorem dL_law_1025 : decode cL_law 1025 = .ok (.iload_n 3, 1) := by decide +kernel
theorem dL_law_1026 : decode cL_law 1026 = .ok (.iconst 3, 1) := by decide +kernel
theorem dL_law_1027 : decode cL_law 1027 = .ok (.iadd, 1) := by decide +kernel
theorem dL_law_1028 : decode cL_law 1028 = .ok (.iaload, 1) := by decide +kernel
theorem dL_law_1029 : decode cL_law 1029 = .ok (.aload_n 0, 1) := by decide +kernel
theorem dL_law_1030 : decode cL_law 1030 = .ok (.iload_n 3, 1) := by decide +kernel
theorem dL_law_1031 : decode cL_law 1031 = .ok (.iconst 4, 1) := by decide +kernel
theorem dL_law_1032 : decode cL_law 1032 = .ok (.iadd, 1) := by decide +kernel
theorem dL_law_1033 : decode cL_law 1033 = .ok (.iaload, 1) := by decide +kernel
theorem dL_law_1034 : decode cL_law 1034 = .ok (.ifCond .eq 7, 3) := by decide +kernel
theorem dL_law_1037 : decode cL_law 1037 = .ok (.iconst 1, 1) := by decide +kernel
theorem dL_law_1038 : decode cL_law 1038 = .ok (.goto 4, 3) := by decide +kernel
theorem dL_law_1041 : decode cL_law 1041 = .ok (.iconst 0, 1) := by decide +kernel
theorem dL_law_1042 : decode cL_law 1042 = .ok (.invokevirtual 135, 3) := by decide +kernel
theorem dL_law_1045 : decode cL_law 1045 = .ok (.aload_n 2, 1) := by decide +kernel
theorem dL_law_1046 : decode cL_law 1046 = .ok (.aload_n 0, 1) := by decide +kernel
theorem dL_law_1047 : decode cL_law 1047 = .ok (.iload_n 3, 1) := by decide +kernel
theorem dL_law_1048 : decode cL_law 1048 = .ok (.iconst 1, 1) := by decide +kernel
theorem dL_law_1049 : decode cL_law 1049 = .ok (.iadd, 1) := by decide +kernel
theorem dL_law_1050 : decode cL_law 1050 = .ok (.iaload, 1) := by decide +kernel
theorem dL_law_1051 : decode cL_law 1051 = .ok (.aload_n 0, 1) := by decide +kernel
theorem dL_law_1052 : decode cL_law 1052 = .ok (.iload_n 3, 1) := by decide +kernel
theorem dL_law_1053 : decode cL_law 1053 = .ok (.iconst 2, 1) := by decide +kernel
theorem dL_law_1054 : decode cL_law 1054 = .ok (.iadd, 1) := by decide +kernel
theorem dL_law_1055 : decode cL_law 1055 = .ok (.iaload, 1) := by decide +kernel
theorem dL_law_1056 : decode cL_law 1056 = .ok (.aload_n 0, 1) := by decide +kernel
theorem dL_law_1057 : decode cL_law 1057 = .ok (.iload_n 3, 1) := by decide +kernel
theorem dL_law_1058 : decode cL_law 1058 = .ok (.iconst 3, 1) := by decide +kernel
theorem dL_law_1059 : decode cL_law 1059 = .ok (.iadd, 1) := by decide +kernel
theorem dL_law_1060 : decode cL_law 1060 = .ok (.iaload, 1) := by decide +kernel
theorem dL_law_1061 : decode cL_law 1061 = .ok (.aload_n 0, 1) := by decide +kernel
theorem dL_law_1062 : decode cL_law 1062 = .ok (.iload_n 3, 1) := by decide +kernel
theorem dL_law_1063 : decode cL_law 1063 = .ok (.iconst 4, 1) := by decide +kernel
theorem dL_law_1064 : decode cL_law 1064 = .ok (.iadd, 1) := by decide +kernel
theorem dL_law_1065 : decode cL_law 1065 = .ok (.iaload, 1) := by decide +kernel
theorem dL_law_1066 : decode cL_law 1066 = .ok (.ifCond .eq 7, 3) := by decide +kernel
theorem dL_law_1069 : decode cL_law 1069 = .ok (.iconst 1, 1) := by decide +kernel
theorem dL_law_1070 : decode cL_law 1070 = .ok (.goto 4, 3) := by decide +kernel
theorem dL_law_1073 : decode cL_law 1073 = .ok (.iconst 0, 1) := by decide +kernel
theorem dL_law_1074 : decode cL_law 1074 = .ok (.invokevirtual 139, 3) := by decide +kernel
theorem dL_law_1077 : decode cL_law 1077 = .ok (.if_icmp .eq 128, 3) := by decide +kernel
theorem dL_law_1080 : decode cL_law 1080 = .ok (.iconst 0, 1) := by decide +kernel
theorem dL_law_1081 : decode cL_law 1081 = .ok (.ireturn, 1) := by decide +kernel
theorem dL_law_1082 : decode cL_law 1082 = .ok (.aload_n 1, 1) := by decide +kernel
theorem dL_law_1083 : decode cL_law 1083 = .ok (.aload_n 0, 1) := by decide +kernel
theorem dL_law_1084 : decode cL_law 1084 = .ok (.iload_n 3, 1) := by decide +kernel
theorem dL_law_1085 : decode cL_law 1085 = .ok (.iconst 1, 1) := by decide +kernel
theorem dL_law_1086 : decode cL_law 1086 = .ok (.iadd, 1) := by decide +kernel
theorem dL_law_1087 : decode cL_law 1087 = .ok (.iaload, 1) := by decide +kernel
theorem dL_law_1088 : decode cL_law 1088 = .ok (.i2l, 1) := by decide +kernel
theorem dL_law_1089 : decode cL_law 1089 = .ok (.bipush 32, 2) := by decide +kernel
theorem dL_law_1091 : decode cL_law 1091 = .ok (.lshl, 1) := by decide +kernel
theorem dL_law_1092 : decode cL_law 1092 = .ok (.aload_n 0, 1) := by decide +kernel
theorem dL_law_1093 : decode cL_law 1093 = .ok (.iload_n 3, 1) := by decide +kernel
theorem dL_law_1094 : decode cL_law 1094 = .ok (.iconst 2, 1) := by decide +kernel
theorem dL_law_1095 : decode cL_law 1095 = .ok (.iadd, 1) := by decide +kernel
theorem dL_law_1096 : decode cL_law 1096 = .ok (.iaload, 1) := by decide +kernel
theorem dL_law_1097 : decode cL_law 1097 = .ok (.i2l, 1) := by decide +kernel
theorem dL_law_1098 : decode cL_law 1098 = .ok (.ldc2_w 110, 3) := by decide +kernel
theorem dL_law_1101 : decode cL_law 1101 = .ok (.land, 1) := by decide +kernel
theorem dL_law_1102 : decode cL_law 1102 = .ok (.lor, 1) := by decide +kernel
theorem dL_law_1103 : decode cL_law 1103 = .ok (.invokevirtual 140, 3) := by decide +kernel
theorem dL_law_1106 : decode cL_law 1106 = .ok (.aload_n 2, 1) := by decide +kernel
theorem dL_law_1107 : decode cL_law 1107 = .ok (.aload_n 0, 1) := by decide +kernel
theorem dL_law_1108 : decode cL_law 1108 = .ok (.iload_n 3, 1) := by decide +kernel
theorem dL_law_1109 : decode cL_law 1109 = .ok (.iconst 1, 1) := by decide +kernel
theorem dL_law_1110 : decode cL_law 1110 = .ok (.iadd, 1) := by decide +kernel
theorem dL_law_1111 : decode cL_law 1111 = .ok (.iaload, 1) := by decide +kernel
theorem dL_law_1112 : decode cL_law 1112 = .ok (.i2l, 1) := by decide +kernel
theorem dL_law_1113 : decode cL_law 1113 = .ok (.bipush 32, 2) := by decide +kernel
theorem dL_law_1115 : decode cL_law 1115 = .ok (.lshl, 1) := by decide +kernel
theorem dL_law_1116 : decode cL_law 1116 = .ok (.aload_n 0, 1) := by decide +kernel
theorem dL_law_1117 : decode cL_law 1117 = .ok (.iload_n 3, 1) := by decide +kernel
theorem dL_law_1118 : decode cL_law 1118 = .ok (.iconst 2, 1) := by decide +kernel
theorem dL_law_1119 : decode cL_law 1119 = .ok (.iadd, 1) := by decide +kernel
theorem dL_law_1120 : decode cL_law 1120 = .ok (.iaload, 1) := by decide +kernel
theorem dL_law_1121 : decode cL_law 1121 = .ok (.i2l, 1) := by decide +kernel
theorem dL_law_1122 : decode cL_law 1122 = .ok (.ldc2_w 110, 3) := by decide +kernel
theorem dL_law_1125 : decode cL_law 1125 = .ok (.land, 1) := by decide +kernel
theorem dL_law_1126 : decode cL_law 1126 = .ok (.lor, 1) := by decide +kernel
theorem dL_law_1127 : decode cL_law 1127 = .ok (.invokevirtual 144, 3) := by decide +kernel
theorem dL_law_1130 : decode cL_law 1130 = .ok (.lcmp, 1) := by decide +kernel
theorem dL_law_1131 : decode cL_law 1131 = .ok (.ifCond .eq 74, 3) := by decide +kernel
theorem dL_law_1134 : decode cL_law 1134 = .ok (.iconst 0, 1) := by decide +kernel
theorem dL_law_1135 : decode cL_law 1135 = .ok (.ireturn, 1) := by decide +kernel
theorem dL_law_1136 : decode cL_law 1136 = .ok (.aload_n 1, 1) := by decide +kernel
theorem dL_law_1137 : decode cL_law 1137 = .ok (.aload_n 0, 1) := by decide +kernel
theorem dL_law_1138 : decode cL_law 1138 = .ok (.iload_n 3, 1) := by decide +kernel
theorem dL_law_1139 : decode cL_law 1139 = .ok (.iconst 1, 1) := by decide +kernel
theorem dL_law_1140 : decode cL_law 1140 = .ok (.iadd, 1) := by decide +kernel
theorem dL_law_1141 : decode cL_law 1141 = .ok (.iaload, 1) := by decide +kernel
theorem dL_law_1142 : decode cL_law 1142 = .ok (.invokevirtual 145, 3) := by decide +kernel
theorem dL_law_1145 : decode cL_law 1145 = .ok (.aload_n 2, 1) := by decide +kernel
theorem dL_law_1146 : decode cL_law 1146 = .ok (.aload_n 0, 1) := by decide +kernel
theorem dL_law_1147 : decode cL_law 1147 = .ok (.iload_n 3, 1) := by decide +kernel
theorem dL_law_1148 : decode cL_law 1148 = .ok (.iconst 1, 1) := by decide +kernel
theorem dL_law_1149 : decode cL_law 1149 = .ok (.iadd, 1) := by decide +kernel
theorem dL_law_1150 : decode cL_law 1150 = .ok (.iaload, 1) := by decide +kernel
theorem dL_law_1151 : decode cL_law 1151 = .ok (.invokevirtual 148, 3) := by decide +kernel
theorem dL_law_1154 : decode cL_law 1154 = .ok (.if_icmp .eq 51, 3) := by decide +kernel
theorem dL_law_1157 : decode cL_law 1157 = .ok (.iconst 0, 1) := by decide +kernel
theorem dL_law_1158 : decode cL_law 1158 = .ok (.ireturn, 1) := by decide +kernel
theorem dL_law_1159 : decode cL_law 1159 = .ok (.aload_n 1, 1) := by decide +kernel
theorem dL_law_1160 : decode cL_law 1160 = .ok (.aload_n 0, 1) := by decide +kernel
theorem dL_law_1161 : decode cL_law 1161 = .ok (.iload_n 3, 1) := by decide +kernel
theorem dL_law_1162 : decode cL_law 1162 = .ok (.iconst 1, 1) := by decide +kernel
theorem dL_law_1163 : decode cL_law 1163 = .ok (.iadd, 1) := by decide +kernel
theorem dL_law_1164 : decode cL_law 1164 = .ok (.iaload, 1) := by decide +kernel
theorem dL_law_1165 : decode cL_law 1165 = .ok (.invokevirtual 149, 3) := by decide +kernel
theorem dL_law_1168 : decode cL_law 1168 = .ok (.aload_n 2, 1) := by decide +kernel
theorem dL_law_1169 : decode cL_law 1169 = .ok (.aload_n 0, 1) := by decide +kernel
theorem dL_law_1170 : decode cL_law 1170 = .ok (.iload_n 3, 1) := by decide +kernel
theorem dL_law_1171 : decode cL_law 1171 = .ok (.iconst 1, 1) := by decide +kernel
theorem dL_law_1172 : decode cL_law 1172 = .ok (.iadd, 1) := by decide +kernel
theorem dL_law_1173 : decode cL_law 1173 = .ok (.iaload, 1) := by decide +kernel
theorem dL_law_1174 : decode cL_law 1174 = .ok (.invokevirtual 152, 3) := by decide +kernel
theorem dL_law_1177 : decode cL_law 1177 = .ok (.if_icmp .eq 28, 3) := by decide +kernel
theorem dL_law_1180 : decode cL_law 1180 = .ok (.iconst 0, 1) := by decide +kernel
theorem dL_law_1181 : decode cL_law 1181 = .ok (.ireturn, 1) := by decide +kernel
theorem dL_law_1182 : decode cL_law 1182 = .ok (.aload_n 1, 1) := by decide +kernel
theorem dL_law_1183 : decode cL_law 1183 = .ok (.aload_n 0, 1) := by decide +kernel
theorem dL_law_1184 : decode cL_law 1184 = .ok (.iload_n 3, 1) := by decide +kernel
theorem dL_law_1185 : decode cL_law 1185 = .ok (.iconst 1, 1) := by decide +kernel
theorem dL_law_1186 : decode cL_law 1186 = .ok (.iadd, 1) := by decide +kernel
theorem dL_law_1187 : decode cL_law 1187 = .ok (.iaload, 1) := by decide +kernel
theorem dL_law_1188 : decode cL_law 1188 = .ok (.invokevirtual 153, 3) := by decide +kernel
theorem dL_law_1191 : decode cL_law 1191 = .ok (.aload_n 2, 1) := by decide +kernel
theorem dL_law_1192 : decode cL_law 1192 = .ok (.aload_n 0, 1) := by decide +kernel
theorem dL_law_1193 : decode cL_law 1193 = .ok (.iload_n 3, 1) := by decide +kernel
theorem dL_law_1194 : decode cL_law 1194 = .ok (.iconst 1, 1) := by decide +kernel
theorem dL_law_1195 : decode cL_law 1195 = .ok (.iadd, 1) := by decide +kernel
theorem dL_law_1196 : decode cL_law 1196 = .ok (.iaload, 1) := by decide +kernel
theorem dL_law_1197 : decode cL_law 1197 = .ok (.invokevirtual 156, 3) := by decide +kernel
theorem dL_law_1200 : decode cL_law 1200 = .ok (.if_icmp .eq 5, 3) := by decide +kernel
theorem dL_law_1203 : decode cL_law 1203 = .ok (.iconst 0, 1) := by decide +kernel
theorem dL_law_1204 : decode cL_law 1204 = .ok (.ireturn, 1) := by decide +kernel
theorem dL_law_1205 : decode cL_law 1205 = .ok (.iinc 3 5, 3) := by decide +kernel
theorem dL_law_1208 : decode cL_law 1208 = .ok (.goto (-1190), 3) := by decide +kernel
theorem dL_law_1211 : decode cL_law 1211 = .ok (.iconst 1, 1) := by decide +kernel
theorem dL_law_1212 : decode cL_law 1212 = .ok (.ireturn, 1) := by decide +kernel
end
section
/-! THE WORLD OF PLACES: every object and array of the class and of the reference has a number (its place), in the order in which they are made; what they hold is a row of ints a place (I), a long a place (L); which place is what (Z): how many there are, their kinds, lengths, which references are set -/
abbrev MT : Type := MethodName × ByteArray × Nat × Option FieldType
abbrev ZT : Type := Nat × (Nat → Nat) × (Nat → Nat) × (Nat → Nat → Bool)
abbrev IT : Type := Nat → Nat → Int32
abbrev LT : Type := Nat → Int64
abbrev TC : Type := ClassId × ClassId × ClassId
abbrev GT : Type := Launch × Nat × (Nat → Int32)
def zN (Z : ZT) : Nat := Z.1
def zK (Z : ZT) (a : Nat) : Nat := Z.2.1 a
def zL (Z : ZT) (a : Nat) : Nat := Z.2.2.1 a
def zS (Z : ZT) (a j : Nat) : Bool := Z.2.2.2 a j
/-- kinds of fields: 0 int, 1 boolean, 2 long, 3 a reference -/
def fkT : List (List Nat) := [[3, 0, 0], [3, 3, 3, 3, 0, 0, 0, 0, 0], [3, 3, 0, 0, 0, 1, 0, 0, 0, 0, 0, 0, 0, 0, 0], [3, 3, 3, 3, 0, 0, 0, 0, 0], [3, 0], [3, 3, 3, 3, 3, 3, 3, 3, 3, 3, 0, 2], [3, 0, 0, 3, 0, 0, 3, 3, 0, 0, 3, 3, 3, 0, 0, 3, 3, 3, 3, 3, 0, 2, 3, 0, 3, 0, 0]]
def fk (ci j : Nat) : Nat := (fkT.getD ci []).getD j 0
def nf (ci : Nat) : Nat := (fkT.getD ci []).length
/-- how far behind an object the object of a reference field stands -/
def ofT : List (List Nat) := [[1], [1, 2, 3, 4], [1, 6], [1, 2, 3, 4], [1], [1, 3, 8, 15, 115, 116, 117, 118, 119, 120], [1, 0, 0, 2, 0, 0, 3, 4, 0, 0, 5, 6, 7, 0, 0, 8, 9, 10, 11, 12, 0, 0, 13, 0, 14]]
def oF (ci j : Nat) : Nat := (ofT.getD ci []).getD j 0
/-- where the first Receiver of a row of them stands -/
def aB (a : Nat) : Nat := if a = 16 then 17 else if a = 115 then 121 else 135
def tG (Z : ZT) (a j : Nat) : Nat := if zK Z a = 9 then aB a + 7 * j else a + oF (zK Z a) j
def fV (ad : Nat → Nat) (Z : ZT) (I : IT) (L : LT) (a j : Nat) : Value :=
  if fk (zK Z a) j = 3 then (if zS Z a j = true then .ref (ad (a + oF (zK Z a) j)) else .null) else if fk (zK Z a) j = 2 then .long (L a) else .int (I a j)
def cE (tc : TC) (ad : Nat → Nat) (Z : ZT) (I : IT) (L : LT) (a : Nat) : va_E :=
  if zK Z a < 7 then .inr (zK Z a, (List.range (nf (zK Z a))).map (fV ad Z I L a))
  else if zK Z a = 7 then .inl (tc.1, (zL Z a, .inl (I a)))
  else if zK Z a = 8 then .inl (tc.2.1, (zL Z a, .inl (I a)))
  else .inl (tc.2.2, (zL Z a, .inr (.inr (.inr (.inr (fun i => if zS Z a i = true then some (ad (aB a + 7 * i)) else none))))))
def wS (tc : TC) (ad : Nat → Nat) (Z : ZT) (I : IT) (L : LT) : va_W := (List.range (zN Z)).map (fun a => (ad a, cE tc ad Z I L a))
def tyS (tc : TC) : List (ClassId × FieldType) := [(tc.1, .int), (tc.2.1, .boolean), (tc.2.2, .object RX2)]
def okZ (Z : ZT) : Prop := (∀ a, zK Z a < 10 → a < zN Z) ∧ (∀ a, zL Z a < 2 ^ 31) ∧ (∀ a j, a < zN Z → zS Z a j = true → tG Z a j < zN Z) ∧ zN Z < 1000
def cv (ad : Nat → Nat) (v : Value) : Value := match v with
  | .ref a => .ref (ad a)
  | v => v
def lvc (ad : Nat → Nat) (lv : List (Nat × Value)) : List (Nat × Value) := lv.map (fun q => (q.1, cv ad q.2))
theorem cv_cat (ad : Nat → Nat) (v : Value) : (cv ad v).category = v.category := by cases v <;> rfl
theorem cv_cong {ad ad' : Nat → Nat} {v : Value} (h : ∀ a, v = .ref a → ad a = ad' a) : cv ad v = cv ad' v := by
  cases v <;> first | rfl | (rename_i a; show Value.ref (ad a) = Value.ref (ad' a); rw [h a rfl])
theorem lvc_get {ad : Nat → Nat} {lv : List (Nat × Value)} {k i : Nat} {v : Value} (h : lv[k]? = some (i, v)) : (lvc ad lv)[k]? = some (i, cv ad v) := by
  rw [lvc, List.getElem?_map, h]; rfl
theorem lvc_filter (ad : Nat → Nat) (P : Nat → Nat → Bool) : ∀ lv : List (Nat × Value), (lvc ad lv).filter (fun q => P q.1 q.2.category) = lvc ad (lv.filter (fun q => P q.1 q.2.category))
  | [] => rfl
  | q :: l => by
    have ih := lvc_filter ad P l
    unfold lvc at ih ⊢
    rw [List.map_cons, List.filter_cons, List.filter_cons, cv_cat]
    split
    · rw [List.map_cons, ih]
    · exact ih
theorem lvc_args (ad : Nat → Nat) : ∀ (vs : List Value) (i : Nat), lv_args i (vs.map (cv ad)) = lvc ad (lv_args i vs)
  | [], _ => rfl
  | v :: vs, i => by
    show (i, cv ad v) :: lv_args (if (cv ad v).category = 2 then i + 2 else i + 1) (vs.map (cv ad)) = _
    rw [cv_cat, lvc_args ad vs]
    rfl
theorem sl_len (ad : Nat → Nat) (vs : List Value) : (lg_sl (vs.map (cv ad))).length = (lg_sl vs).length := by
  induction vs with
  | nil => rfl
  | cons v vs ih =>
    simp only [lg_sl, List.map_cons, List.flatMap_cons, List.length_append, cv_cat] at ih ⊢
    rw [ih]
    congr 1
    split <;> rfl
theorem map_set {α : Type} {n a : Nat} {f f' : Nat → α} (ha : a < n) (h : ∀ b, b < n → b ≠ a → f' b = f b) : ((List.range n).map f).set a (f' a) = (List.range n).map f' := by
  apply List.ext_getElem?
  intro i
  by_cases hi : i < n
  · by_cases hia : i = a
    · subst hia
      rw [List.getElem?_set_self (by simpa using hi)]
      simp [hi]
    · rw [List.getElem?_set_ne (Ne.symm hia)]
      simp only [List.getElem?_map, List.getElem?_range hi, Option.map_some, h i hi hia]
  · rw [List.getElem?_eq_none (by simpa using Nat.le_of_not_lt hi), List.getElem?_eq_none (by simpa using Nat.le_of_not_lt hi)]
theorem map_get {α : Type} {n a : Nat} {f : Nat → α} (ha : a < n) : ((List.range n).map f)[a]? = some (f a) := by
  simp [ha]
theorem wS_get {tc : TC} {ad : Nat → Nat} {Z : ZT} {I : IT} {L : LT} {a : Nat} (ha : a < zN Z) : (wS tc ad Z I L)[a]? = some (ad a, cE tc ad Z I L a) := map_get ha
theorem wS_set {tc : TC} {ad : Nat → Nat} {Z Z' : ZT} {I I' : IT} {L L' : LT} {a : Nat} {x : va_E} (ha : a < zN Z) (hn : zN Z' = zN Z) (hx : cE tc ad Z' I' L' a = x) (h : ∀ b, b < zN Z → b ≠ a → cE tc ad Z' I' L' b = cE tc ad Z I L b) : (wS tc ad Z I L).set a (ad a, x) = wS tc ad Z' I' L' := by
  unfold wS
  rw [hn, ← hx]
  exact map_set (f' := fun a => (ad a, cE tc ad Z' I' L' a)) ha (fun b hb hne => by show (ad b, _) = (ad b, _); rw [h b hb hne])
/-- the cells by their kinds -/
theorem cE_o {tc : TC} {ad : Nat → Nat} {Z : ZT} {I : IT} {L : LT} {a ci : Nat} (h : zK Z a = ci) (hc : ci < 7) : cE tc ad Z I L a = .inr (ci, (List.range (nf ci)).map (fV ad Z I L a)) := by
  subst h; unfold cE; rw [if_pos hc]
theorem cE_i {tc : TC} {ad : Nat → Nat} {Z : ZT} {I : IT} {L : LT} {a : Nat} (h : zK Z a = 7) : cE tc ad Z I L a = .inl (tc.1, (zL Z a, .inl (I a))) := by
  unfold cE; rw [if_neg (by omega), if_pos h]
theorem cE_z {tc : TC} {ad : Nat → Nat} {Z : ZT} {I : IT} {L : LT} {a : Nat} (h : zK Z a = 8) : cE tc ad Z I L a = .inl (tc.2.1, (zL Z a, .inl (I a))) := by
  unfold cE; rw [if_neg (by omega), if_neg (by omega), if_pos h]
theorem cE_q {tc : TC} {ad : Nat → Nat} {Z : ZT} {I : IT} {L : LT} {a : Nat} (h : zK Z a = 9) : cE tc ad Z I L a = .inl (tc.2.2, (zL Z a, .inr (.inr (.inr (.inr (fun i => if zS Z a i = true then some (ad (aB a + 7 * i)) else none)))))) := by
  unfold cE; rw [if_neg (by omega), if_neg (by omega), if_neg (by omega)]
/-- a row of ints changed -/
def upR (I : IT) (a : Nat) (f : Nat → Int32) : IT := fun b => if b = a then f else I b
abbrev upI (I : IT) (a k : Nat) (v : Int32) : IT := upR I a (upd (I a) k v)
def upL (L : LT) (a : Nat) (v : Int64) : LT := fun b => if b = a then v else L b
theorem upR_s (I : IT) (a : Nat) (f : Nat → Int32) : upR I a f a = f := if_pos rfl
theorem upR_n {I : IT} {a b : Nat} {f : Nat → Int32} (h : b ≠ a) : upR I a f b = I b := if_neg h
theorem upL_s (L : LT) (a : Nat) (v : Int64) : upL L a v a = v := if_pos rfl
theorem upL_n {L : LT} {a b : Nat} {v : Int64} (h : b ≠ a) : upL L a v b = L b := if_neg h
theorem upd_s (f : Nat → Int32) (k : Nat) (v : Int32) : upd f k v k = v := if_pos rfl
theorem upd_n {f : Nat → Int32} {k j : Nat} {v : Int32} (h : j ≠ k) : upd f k v j = f j := if_neg h
theorem cE_uI {tc : TC} {ad : Nat → Nat} {Z : ZT} {I : IT} {L : LT} {a b : Nat} {f : Nat → Int32} (h : b ≠ a) : cE tc ad Z (upR I a f) L b = cE tc ad Z I L b := by
  unfold cE
  have hv : fV ad Z (upR I a f) L b = fV ad Z I L b := by funext j; unfold fV; rw [upR_n h]
  rw [hv, upR_n h]
theorem cE_uL {tc : TC} {ad : Nat → Nat} {Z : ZT} {I : IT} {L : LT} {a b : Nat} {v : Int64} (h : b ≠ a) : cE tc ad Z I (upL L a v) b = cE tc ad Z I L b := by
  unfold cE
  have hv : fV ad Z I (upL L a v) b = fV ad Z I L b := by funext j; unfold fV; rw [upL_n h]
  rw [hv]
end
section
theorem inX0 : ∀ w ∈ u_ws RX0 TX0 3, w ∈ lw_tbl := by
  show ∀ w ∈ [u_lay RX0 TX0 0, u_lay RX0 TX0 1, u_lay RX0 TX0 2], w ∈ lw_tbl
  exact List.forall_mem_cons.mpr ⟨List.mem_of_getElem? (i := 273) (by decide +kernel), List.forall_mem_cons.mpr ⟨List.mem_of_getElem? (i := 275) (by decide +kernel), List.forall_mem_cons.mpr ⟨List.mem_of_getElem? (i := 277) (by decide +kernel), fun _ h => absurd h List.not_mem_nil⟩⟩⟩
theorem inX1 : ∀ w ∈ u_ws RX1 TX1 9, w ∈ lw_tbl := by
  show ∀ w ∈ [u_lay RX1 TX1 0, u_lay RX1 TX1 1, u_lay RX1 TX1 2, u_lay RX1 TX1 3, u_lay RX1 TX1 4, u_lay RX1 TX1 5, u_lay RX1 TX1 6, u_lay RX1 TX1 7, u_lay RX1 TX1 8], w ∈ lw_tbl
  exact List.forall_mem_cons.mpr ⟨List.mem_of_getElem? (i := 126) (by decide +kernel), List.forall_mem_cons.mpr ⟨List.mem_of_getElem? (i := 128) (by decide +kernel), List.forall_mem_cons.mpr ⟨List.mem_of_getElem? (i := 130) (by decide +kernel), List.forall_mem_cons.mpr ⟨List.mem_of_getElem? (i := 132) (by decide +kernel), List.forall_mem_cons.mpr ⟨List.mem_of_getElem? (i := 134) (by decide +kernel), List.forall_mem_cons.mpr ⟨List.mem_of_getElem? (i := 136) (by decide +kernel), List.forall_mem_cons.mpr ⟨List.mem_of_getElem? (i := 138) (by decide +kernel), List.forall_mem_cons.mpr ⟨List.mem_of_getElem? (i := 140) (by decide +kernel), List.forall_mem_cons.mpr ⟨List.mem_of_getElem? (i := 142) (by decide +kernel), fun _ h => absurd h List.not_mem_nil⟩⟩⟩⟩⟩⟩⟩⟩⟩
theorem inX2 : ∀ w ∈ u_ws RX2 TX2 15, w ∈ lw_tbl := by
  show ∀ w ∈ [u_lay RX2 TX2 0, u_lay RX2 TX2 1, u_lay RX2 TX2 2, u_lay RX2 TX2 3, u_lay RX2 TX2 4, u_lay RX2 TX2 5, u_lay RX2 TX2 6, u_lay RX2 TX2 7, u_lay RX2 TX2 8, u_lay RX2 TX2 9, u_lay RX2 TX2 10, u_lay RX2 TX2 11, u_lay RX2 TX2 12, u_lay RX2 TX2 13, u_lay RX2 TX2 14], w ∈ lw_tbl
  exact List.forall_mem_cons.mpr ⟨List.mem_of_getElem? (i := 229) (by decide +kernel), List.forall_mem_cons.mpr ⟨List.mem_of_getElem? (i := 231) (by decide +kernel), List.forall_mem_cons.mpr ⟨List.mem_of_getElem? (i := 233) (by decide +kernel), List.forall_mem_cons.mpr ⟨List.mem_of_getElem? (i := 235) (by decide +kernel), List.forall_mem_cons.mpr ⟨List.mem_of_getElem? (i := 237) (by decide +kernel), List.forall_mem_cons.mpr ⟨List.mem_of_getElem? (i := 239) (by decide +kernel), List.forall_mem_cons.mpr ⟨List.mem_of_getElem? (i := 241) (by decide +kernel), List.forall_mem_cons.mpr ⟨List.mem_of_getElem? (i := 243) (by decide +kernel), List.forall_mem_cons.mpr ⟨List.mem_of_getElem? (i := 245) (by decide +kernel), List.forall_mem_cons.mpr ⟨List.mem_of_getElem? (i := 247) (by decide +kernel), List.forall_mem_cons.mpr ⟨List.mem_of_getElem? (i := 249) (by decide +kernel), List.forall_mem_cons.mpr ⟨List.mem_of_getElem? (i := 251) (by decide +kernel), List.forall_mem_cons.mpr ⟨List.mem_of_getElem? (i := 253) (by decide +kernel), List.forall_mem_cons.mpr ⟨List.mem_of_getElem? (i := 255) (by decide +kernel), List.forall_mem_cons.mpr ⟨List.mem_of_getElem? (i := 257) (by decide +kernel), fun _ h => absurd h List.not_mem_nil⟩⟩⟩⟩⟩⟩⟩⟩⟩⟩⟩⟩⟩⟩⟩
theorem inX3 : ∀ w ∈ u_ws RX3 TX3 9, w ∈ lw_tbl := by
  show ∀ w ∈ [u_lay RX3 TX3 0, u_lay RX3 TX3 1, u_lay RX3 TX3 2, u_lay RX3 TX3 3, u_lay RX3 TX3 4, u_lay RX3 TX3 5, u_lay RX3 TX3 6, u_lay RX3 TX3 7, u_lay RX3 TX3 8], w ∈ lw_tbl
  exact List.forall_mem_cons.mpr ⟨List.mem_of_getElem? (i := 175) (by decide +kernel), List.forall_mem_cons.mpr ⟨List.mem_of_getElem? (i := 177) (by decide +kernel), List.forall_mem_cons.mpr ⟨List.mem_of_getElem? (i := 179) (by decide +kernel), List.forall_mem_cons.mpr ⟨List.mem_of_getElem? (i := 181) (by decide +kernel), List.forall_mem_cons.mpr ⟨List.mem_of_getElem? (i := 183) (by decide +kernel), List.forall_mem_cons.mpr ⟨List.mem_of_getElem? (i := 185) (by decide +kernel), List.forall_mem_cons.mpr ⟨List.mem_of_getElem? (i := 187) (by decide +kernel), List.forall_mem_cons.mpr ⟨List.mem_of_getElem? (i := 189) (by decide +kernel), List.forall_mem_cons.mpr ⟨List.mem_of_getElem? (i := 191) (by decide +kernel), fun _ h => absurd h List.not_mem_nil⟩⟩⟩⟩⟩⟩⟩⟩⟩
theorem inX4 : ∀ w ∈ u_ws RX4 TX4 2, w ∈ lw_tbl := by
  show ∀ w ∈ [u_lay RX4 TX4 0, u_lay RX4 TX4 1], w ∈ lw_tbl
  exact List.forall_mem_cons.mpr ⟨List.mem_of_getElem? (i := 76) (by decide +kernel), List.forall_mem_cons.mpr ⟨List.mem_of_getElem? (i := 78) (by decide +kernel), fun _ h => absurd h List.not_mem_nil⟩⟩
theorem inX5 : ∀ w ∈ u_ws RX5 TX5 12, w ∈ lw_tbl := by
  show ∀ w ∈ [u_lay RX5 TX5 0, u_lay RX5 TX5 1, u_lay RX5 TX5 2, u_lay RX5 TX5 3, u_lay RX5 TX5 4, u_lay RX5 TX5 5, u_lay RX5 TX5 6, u_lay RX5 TX5 7, u_lay RX5 TX5 8, u_lay RX5 TX5 9, u_lay RX5 TX5 10, u_lay RX5 TX5 11], w ∈ lw_tbl
  exact List.forall_mem_cons.mpr ⟨List.mem_of_getElem? (i := 292) (by decide +kernel), List.forall_mem_cons.mpr ⟨List.mem_of_getElem? (i := 294) (by decide +kernel), List.forall_mem_cons.mpr ⟨List.mem_of_getElem? (i := 296) (by decide +kernel), List.forall_mem_cons.mpr ⟨List.mem_of_getElem? (i := 298) (by decide +kernel), List.forall_mem_cons.mpr ⟨List.mem_of_getElem? (i := 300) (by decide +kernel), List.forall_mem_cons.mpr ⟨List.mem_of_getElem? (i := 302) (by decide +kernel), List.forall_mem_cons.mpr ⟨List.mem_of_getElem? (i := 304) (by decide +kernel), List.forall_mem_cons.mpr ⟨List.mem_of_getElem? (i := 306) (by decide +kernel), List.forall_mem_cons.mpr ⟨List.mem_of_getElem? (i := 308) (by decide +kernel), List.forall_mem_cons.mpr ⟨List.mem_of_getElem? (i := 310) (by decide +kernel), List.forall_mem_cons.mpr ⟨List.mem_of_getElem? (i := 312) (by decide +kernel), List.forall_mem_cons.mpr ⟨List.mem_of_getElem? (i := 314) (by decide +kernel), fun _ h => absurd h List.not_mem_nil⟩⟩⟩⟩⟩⟩⟩⟩⟩⟩⟩⟩
theorem inX6 : ∀ w ∈ u_ws RX6 TX6 27, w ∈ lw_tbl := by
  show ∀ w ∈ [u_lay RX6 TX6 0, u_lay RX6 TX6 1, u_lay RX6 TX6 2, u_lay RX6 TX6 3, u_lay RX6 TX6 4, u_lay RX6 TX6 5, u_lay RX6 TX6 6, u_lay RX6 TX6 7, u_lay RX6 TX6 8, u_lay RX6 TX6 9, u_lay RX6 TX6 10, u_lay RX6 TX6 11, u_lay RX6 TX6 12, u_lay RX6 TX6 13, u_lay RX6 TX6 14, u_lay RX6 TX6 15, u_lay RX6 TX6 16, u_lay RX6 TX6 17, u_lay RX6 TX6 18, u_lay RX6 TX6 19, u_lay RX6 TX6 20, u_lay RX6 TX6 21, u_lay RX6 TX6 22, u_lay RX6 TX6 23, u_lay RX6 TX6 24, u_lay RX6 TX6 25, u_lay RX6 TX6 26], w ∈ lw_tbl
  exact List.forall_mem_cons.mpr ⟨List.mem_of_getElem? (i := 761) (by decide +kernel), List.forall_mem_cons.mpr ⟨List.mem_of_getElem? (i := 763) (by decide +kernel), List.forall_mem_cons.mpr ⟨List.mem_of_getElem? (i := 765) (by decide +kernel), List.forall_mem_cons.mpr ⟨List.mem_of_getElem? (i := 767) (by decide +kernel), List.forall_mem_cons.mpr ⟨List.mem_of_getElem? (i := 769) (by decide +kernel), List.forall_mem_cons.mpr ⟨List.mem_of_getElem? (i := 771) (by decide +kernel), List.forall_mem_cons.mpr ⟨List.mem_of_getElem? (i := 773) (by decide +kernel), List.forall_mem_cons.mpr ⟨List.mem_of_getElem? (i := 775) (by decide +kernel), List.forall_mem_cons.mpr ⟨List.mem_of_getElem? (i := 777) (by decide +kernel), List.forall_mem_cons.mpr ⟨List.mem_of_getElem? (i := 779) (by decide +kernel), List.forall_mem_cons.mpr ⟨List.mem_of_getElem? (i := 781) (by decide +kernel), List.forall_mem_cons.mpr ⟨List.mem_of_getElem? (i := 783) (by decide +kernel), List.forall_mem_cons.mpr ⟨List.mem_of_getElem? (i := 785) (by decide +kernel), List.forall_mem_cons.mpr ⟨List.mem_of_getElem? (i := 787) (by decide +kernel), List.forall_mem_cons.mpr ⟨List.mem_of_getElem? (i := 789) (by decide +kernel), List.forall_mem_cons.mpr ⟨List.mem_of_getElem? (i := 791) (by decide +kernel), List.forall_mem_cons.mpr ⟨List.mem_of_getElem? (i := 793) (by decide +kernel), List.forall_mem_cons.mpr ⟨List.mem_of_getElem? (i := 795) (by decide +kernel), List.forall_mem_cons.mpr ⟨List.mem_of_getElem? (i := 797) (by decide +kernel), List.forall_mem_cons.mpr ⟨List.mem_of_getElem? (i := 799) (by decide +kernel), List.forall_mem_cons.mpr ⟨List.mem_of_getElem? (i := 801) (by decide +kernel), List.forall_mem_cons.mpr ⟨List.mem_of_getElem? (i := 803) (by decide +kernel), List.forall_mem_cons.mpr ⟨List.mem_of_getElem? (i := 805) (by decide +kernel), List.forall_mem_cons.mpr ⟨List.mem_of_getElem? (i := 807) (by decide +kernel), List.forall_mem_cons.mpr ⟨List.mem_of_getElem? (i := 809) (by decide +kernel), List.forall_mem_cons.mpr ⟨List.mem_of_getElem? (i := 811) (by decide +kernel), List.forall_mem_cons.mpr ⟨List.mem_of_getElem? (i := 813) (by decide +kernel), fun _ h => absurd h List.not_mem_nil⟩⟩⟩⟩⟩⟩⟩⟩⟩⟩⟩⟩⟩⟩⟩⟩⟩⟩⟩⟩⟩⟩⟩⟩⟩⟩⟩
/-- a field's link: class of the code, entry, the field's class (a number) and slot -/
def FA (own : String) (idx ci k : Nat) : Prop := ∃ (C : String) (T : u_T) (N : Nat) (ty : Nat → FieldType), vwCl[ci]? = some (C, T, N) ∧ nf ci = N ∧ k < N ∧ (∀ w ∈ u_ws C T N, w ∈ lw_tbl) ∧ (∀ k, k < N → parseFieldDescriptor (T k).2.2.1 = some (ty k)) ∧ (∀ a, a < N → ∀ b, b < N → a ≠ b → (T a).2.1 ≠ (T b).2.1) ∧ Cond.fieldLink own idx (T k).1 (T k).2.1 (T k).2.2.1 ∈ lw_tbl ∧ (fk ci k = 0 → ty k = .int ∧ (T k).2.2.2 = false) ∧ (fk ci k = 1 → ty k = .boolean ∧ (T k).2.2.2 = false) ∧ (fk ci k = 2 → ty k = .long ∧ (T k).2.2.2 = false) ∧ (fk ci k = 3 → refKind (ty k) = true ∧ (T k).2.2.2 = true ∧ (T k).1 = C) ∧ ci < 7
theorem fa0 {own : String} {idx k : Nat} (hk : k < 3) (hw : Cond.fieldLink own idx (TX0 k).1 (TX0 k).2.1 (TX0 k).2.2.1 ∈ lw_tbl) : FA own idx 0 k := ⟨RX0, TX0, 3, tyX0, rfl, rfl, hk, inX0, tyX0_ok, nmX0, hw, (show ∀ k, k < 3 → fk 0 k = 0 → tyX0 k = .int ∧ (TX0 k).2.2.2 = false by decide +kernel) k hk, (show ∀ k, k < 3 → fk 0 k = 1 → tyX0 k = .boolean ∧ (TX0 k).2.2.2 = false by decide +kernel) k hk, (show ∀ k, k < 3 → fk 0 k = 2 → tyX0 k = .long ∧ (TX0 k).2.2.2 = false by decide +kernel) k hk, (show ∀ k, k < 3 → fk 0 k = 3 → refKind (tyX0 k) = true ∧ (TX0 k).2.2.2 = true ∧ (TX0 k).1 = RX0 by decide +kernel) k hk, by decide⟩
theorem fa1 {own : String} {idx k : Nat} (hk : k < 9) (hw : Cond.fieldLink own idx (TX1 k).1 (TX1 k).2.1 (TX1 k).2.2.1 ∈ lw_tbl) : FA own idx 1 k := ⟨RX1, TX1, 9, tyX1, rfl, rfl, hk, inX1, tyX1_ok, nmX1, hw, (show ∀ k, k < 9 → fk 1 k = 0 → tyX1 k = .int ∧ (TX1 k).2.2.2 = false by decide +kernel) k hk, (show ∀ k, k < 9 → fk 1 k = 1 → tyX1 k = .boolean ∧ (TX1 k).2.2.2 = false by decide +kernel) k hk, (show ∀ k, k < 9 → fk 1 k = 2 → tyX1 k = .long ∧ (TX1 k).2.2.2 = false by decide +kernel) k hk, (show ∀ k, k < 9 → fk 1 k = 3 → refKind (tyX1 k) = true ∧ (TX1 k).2.2.2 = true ∧ (TX1 k).1 = RX1 by decide +kernel) k hk, by decide⟩
theorem fa2 {own : String} {idx k : Nat} (hk : k < 15) (hw : Cond.fieldLink own idx (TX2 k).1 (TX2 k).2.1 (TX2 k).2.2.1 ∈ lw_tbl) : FA own idx 2 k := ⟨RX2, TX2, 15, tyX2, rfl, rfl, hk, inX2, tyX2_ok, nmX2, hw, (show ∀ k, k < 15 → fk 2 k = 0 → tyX2 k = .int ∧ (TX2 k).2.2.2 = false by decide +kernel) k hk, (show ∀ k, k < 15 → fk 2 k = 1 → tyX2 k = .boolean ∧ (TX2 k).2.2.2 = false by decide +kernel) k hk, (show ∀ k, k < 15 → fk 2 k = 2 → tyX2 k = .long ∧ (TX2 k).2.2.2 = false by decide +kernel) k hk, (show ∀ k, k < 15 → fk 2 k = 3 → refKind (tyX2 k) = true ∧ (TX2 k).2.2.2 = true ∧ (TX2 k).1 = RX2 by decide +kernel) k hk, by decide⟩
theorem fa3 {own : String} {idx k : Nat} (hk : k < 9) (hw : Cond.fieldLink own idx (TX3 k).1 (TX3 k).2.1 (TX3 k).2.2.1 ∈ lw_tbl) : FA own idx 3 k := ⟨RX3, TX3, 9, tyX3, rfl, rfl, hk, inX3, tyX3_ok, nmX3, hw, (show ∀ k, k < 9 → fk 3 k = 0 → tyX3 k = .int ∧ (TX3 k).2.2.2 = false by decide +kernel) k hk, (show ∀ k, k < 9 → fk 3 k = 1 → tyX3 k = .boolean ∧ (TX3 k).2.2.2 = false by decide +kernel) k hk, (show ∀ k, k < 9 → fk 3 k = 2 → tyX3 k = .long ∧ (TX3 k).2.2.2 = false by decide +kernel) k hk, (show ∀ k, k < 9 → fk 3 k = 3 → refKind (tyX3 k) = true ∧ (TX3 k).2.2.2 = true ∧ (TX3 k).1 = RX3 by decide +kernel) k hk, by decide⟩
theorem fa4 {own : String} {idx k : Nat} (hk : k < 2) (hw : Cond.fieldLink own idx (TX4 k).1 (TX4 k).2.1 (TX4 k).2.2.1 ∈ lw_tbl) : FA own idx 4 k := ⟨RX4, TX4, 2, tyX4, rfl, rfl, hk, inX4, tyX4_ok, nmX4, hw, (show ∀ k, k < 2 → fk 4 k = 0 → tyX4 k = .int ∧ (TX4 k).2.2.2 = false by decide +kernel) k hk, (show ∀ k, k < 2 → fk 4 k = 1 → tyX4 k = .boolean ∧ (TX4 k).2.2.2 = false by decide +kernel) k hk, (show ∀ k, k < 2 → fk 4 k = 2 → tyX4 k = .long ∧ (TX4 k).2.2.2 = false by decide +kernel) k hk, (show ∀ k, k < 2 → fk 4 k = 3 → refKind (tyX4 k) = true ∧ (TX4 k).2.2.2 = true ∧ (TX4 k).1 = RX4 by decide +kernel) k hk, by decide⟩
theorem fa5 {own : String} {idx k : Nat} (hk : k < 12) (hw : Cond.fieldLink own idx (TX5 k).1 (TX5 k).2.1 (TX5 k).2.2.1 ∈ lw_tbl) : FA own idx 5 k := ⟨RX5, TX5, 12, tyX5, rfl, rfl, hk, inX5, tyX5_ok, nmX5, hw, (show ∀ k, k < 12 → fk 5 k = 0 → tyX5 k = .int ∧ (TX5 k).2.2.2 = false by decide +kernel) k hk, (show ∀ k, k < 12 → fk 5 k = 1 → tyX5 k = .boolean ∧ (TX5 k).2.2.2 = false by decide +kernel) k hk, (show ∀ k, k < 12 → fk 5 k = 2 → tyX5 k = .long ∧ (TX5 k).2.2.2 = false by decide +kernel) k hk, (show ∀ k, k < 12 → fk 5 k = 3 → refKind (tyX5 k) = true ∧ (TX5 k).2.2.2 = true ∧ (TX5 k).1 = RX5 by decide +kernel) k hk, by decide⟩
theorem fa6 {own : String} {idx k : Nat} (hk : k < 27) (hw : Cond.fieldLink own idx (TX6 k).1 (TX6 k).2.1 (TX6 k).2.2.1 ∈ lw_tbl) : FA own idx 6 k := ⟨RX6, TX6, 27, tyX6, rfl, rfl, hk, inX6, tyX6_ok, nmX6, hw, (show ∀ k, k < 27 → fk 6 k = 0 → tyX6 k = .int ∧ (TX6 k).2.2.2 = false by decide +kernel) k hk, (show ∀ k, k < 27 → fk 6 k = 1 → tyX6 k = .boolean ∧ (TX6 k).2.2.2 = false by decide +kernel) k hk, (show ∀ k, k < 27 → fk 6 k = 2 → tyX6 k = .long ∧ (TX6 k).2.2.2 = false by decide +kernel) k hk, (show ∀ k, k < 27 → fk 6 k = 3 → refKind (tyX6 k) = true ∧ (TX6 k).2.2.2 = true ∧ (TX6 k).1 = RX6 by decide +kernel) k hk, by decide⟩
theorem fX4_11 : FA RX4 11 4 0 := fa4 (by decide) (List.mem_of_getElem? (i := 73) (by decide +kernel))
theorem fX4_15 : FA RX4 15 4 1 := fa4 (by decide) (List.mem_of_getElem? (i := 74) (by decide +kernel))
theorem fX5_70 : FA RX5 70 4 1 := fa4 (by decide) (List.mem_of_getElem? (i := 75) (by decide +kernel))
theorem fX1_9 : FA RX1 9 1 0 := fa1 (by decide) (List.mem_of_getElem? (i := 110) (by decide +kernel))
theorem fX5_112 : FA RX5 112 1 0 := fa1 (by decide) (List.mem_of_getElem? (i := 111) (by decide +kernel))
theorem fX1_15 : FA RX1 15 1 1 := fa1 (by decide) (List.mem_of_getElem? (i := 112) (by decide +kernel))
theorem fX1_18 : FA RX1 18 1 2 := fa1 (by decide) (List.mem_of_getElem? (i := 113) (by decide +kernel))
theorem fX1_21 : FA RX1 21 1 3 := fa1 (by decide) (List.mem_of_getElem? (i := 114) (by decide +kernel))
theorem fX1_24 : FA RX1 24 1 4 := fa1 (by decide) (List.mem_of_getElem? (i := 115) (by decide +kernel))
theorem fX5_87 : FA RX5 87 1 4 := fa1 (by decide) (List.mem_of_getElem? (i := 116) (by decide +kernel))
theorem fX1_28 : FA RX1 28 1 5 := fa1 (by decide) (List.mem_of_getElem? (i := 117) (by decide +kernel))
theorem fX5_90 : FA RX5 90 1 5 := fa1 (by decide) (List.mem_of_getElem? (i := 118) (by decide +kernel))
theorem fX1_31 : FA RX1 31 1 6 := fa1 (by decide) (List.mem_of_getElem? (i := 119) (by decide +kernel))
theorem fX5_93 : FA RX5 93 1 6 := fa1 (by decide) (List.mem_of_getElem? (i := 120) (by decide +kernel))
theorem fX2_119 : FA RX2 119 1 6 := fa1 (by decide) (List.mem_of_getElem? (i := 121) (by decide +kernel))
theorem fX1_34 : FA RX1 34 1 7 := fa1 (by decide) (List.mem_of_getElem? (i := 122) (by decide +kernel))
theorem fX5_99 : FA RX5 99 1 7 := fa1 (by decide) (List.mem_of_getElem? (i := 123) (by decide +kernel))
theorem fX1_37 : FA RX1 37 1 8 := fa1 (by decide) (List.mem_of_getElem? (i := 124) (by decide +kernel))
theorem fX5_102 : FA RX5 102 1 8 := fa1 (by decide) (List.mem_of_getElem? (i := 125) (by decide +kernel))
theorem fX3_11 : FA RX3 11 3 0 := fa3 (by decide) (List.mem_of_getElem? (i := 157) (by decide +kernel))
theorem fX5_136 : FA RX5 136 3 0 := fa3 (by decide) (List.mem_of_getElem? (i := 158) (by decide +kernel))
theorem fX3_15 : FA RX3 15 3 1 := fa3 (by decide) (List.mem_of_getElem? (i := 159) (by decide +kernel))
theorem fX5_149 : FA RX5 149 3 1 := fa3 (by decide) (List.mem_of_getElem? (i := 160) (by decide +kernel))
theorem fX3_18 : FA RX3 18 3 2 := fa3 (by decide) (List.mem_of_getElem? (i := 161) (by decide +kernel))
theorem fX5_158 : FA RX5 158 3 2 := fa3 (by decide) (List.mem_of_getElem? (i := 162) (by decide +kernel))
theorem fX3_21 : FA RX3 21 3 3 := fa3 (by decide) (List.mem_of_getElem? (i := 163) (by decide +kernel))
theorem fX5_155 : FA RX5 155 3 3 := fa3 (by decide) (List.mem_of_getElem? (i := 164) (by decide +kernel))
theorem fX3_30 : FA RX3 30 3 4 := fa3 (by decide) (List.mem_of_getElem? (i := 165) (by decide +kernel))
theorem fX5_133 : FA RX5 133 3 4 := fa3 (by decide) (List.mem_of_getElem? (i := 166) (by decide +kernel))
theorem fX3_34 : FA RX3 34 3 5 := fa3 (by decide) (List.mem_of_getElem? (i := 167) (by decide +kernel))
theorem fX5_119 : FA RX5 119 3 5 := fa3 (by decide) (List.mem_of_getElem? (i := 168) (by decide +kernel))
theorem fX3_37 : FA RX3 37 3 6 := fa3 (by decide) (List.mem_of_getElem? (i := 169) (by decide +kernel))
theorem fX5_124 : FA RX5 124 3 6 := fa3 (by decide) (List.mem_of_getElem? (i := 170) (by decide +kernel))
theorem fX3_40 : FA RX3 40 3 7 := fa3 (by decide) (List.mem_of_getElem? (i := 171) (by decide +kernel))
theorem fX5_127 : FA RX5 127 3 7 := fa3 (by decide) (List.mem_of_getElem? (i := 172) (by decide +kernel))
theorem fX3_43 : FA RX3 43 3 8 := fa3 (by decide) (List.mem_of_getElem? (i := 173) (by decide +kernel))
theorem fX5_130 : FA RX5 130 3 8 := fa3 (by decide) (List.mem_of_getElem? (i := 174) (by decide +kernel))
theorem fX2_12 : FA RX2 12 2 0 := fa2 (by decide) (List.mem_of_getElem? (i := 208) (by decide +kernel))
theorem fX5_115 : FA RX5 115 2 0 := fa2 (by decide) (List.mem_of_getElem? (i := 209) (by decide +kernel))
theorem fX2_18 : FA RX2 18 2 1 := fa2 (by decide) (List.mem_of_getElem? (i := 210) (by decide +kernel))
theorem fX5_143 : FA RX5 143 2 1 := fa2 (by decide) (List.mem_of_getElem? (i := 211) (by decide +kernel))
theorem fX2_25 : FA RX2 25 2 2 := fa2 (by decide) (List.mem_of_getElem? (i := 212) (by decide +kernel))
theorem fX2_29 : FA RX2 29 2 3 := fa2 (by decide) (List.mem_of_getElem? (i := 213) (by decide +kernel))
theorem fX5_283 : FA RX5 283 2 3 := fa2 (by decide) (List.mem_of_getElem? (i := 214) (by decide +kernel))
theorem fX2_32 : FA RX2 32 2 4 := fa2 (by decide) (List.mem_of_getElem? (i := 215) (by decide +kernel))
theorem fX2_35 : FA RX2 35 2 5 := fa2 (by decide) (List.mem_of_getElem? (i := 216) (by decide +kernel))
theorem fX5_236 : FA RX5 236 2 5 := fa2 (by decide) (List.mem_of_getElem? (i := 217) (by decide +kernel))
theorem fX2_39 : FA RX2 39 2 6 := fa2 (by decide) (List.mem_of_getElem? (i := 218) (by decide +kernel))
theorem fX2_42 : FA RX2 42 2 7 := fa2 (by decide) (List.mem_of_getElem? (i := 219) (by decide +kernel))
theorem fX2_45 : FA RX2 45 2 8 := fa2 (by decide) (List.mem_of_getElem? (i := 220) (by decide +kernel))
theorem fX2_48 : FA RX2 48 2 9 := fa2 (by decide) (List.mem_of_getElem? (i := 221) (by decide +kernel))
theorem fX5_211 : FA RX5 211 2 9 := fa2 (by decide) (List.mem_of_getElem? (i := 222) (by decide +kernel))
theorem fX2_51 : FA RX2 51 2 10 := fa2 (by decide) (List.mem_of_getElem? (i := 223) (by decide +kernel))
theorem fX5_214 : FA RX5 214 2 10 := fa2 (by decide) (List.mem_of_getElem? (i := 224) (by decide +kernel))
theorem fX2_54 : FA RX2 54 2 11 := fa2 (by decide) (List.mem_of_getElem? (i := 225) (by decide +kernel))
theorem fX2_57 : FA RX2 57 2 12 := fa2 (by decide) (List.mem_of_getElem? (i := 226) (by decide +kernel))
theorem fX2_60 : FA RX2 60 2 13 := fa2 (by decide) (List.mem_of_getElem? (i := 227) (by decide +kernel))
theorem fX2_63 : FA RX2 63 2 14 := fa2 (by decide) (List.mem_of_getElem? (i := 228) (by decide +kernel))
theorem fX0_11 : FA RX0 11 0 0 := fa0 (by decide) (List.mem_of_getElem? (i := 269) (by decide +kernel))
theorem fX0_17 : FA RX0 17 0 1 := fa0 (by decide) (List.mem_of_getElem? (i := 270) (by decide +kernel))
theorem fX0_21 : FA RX0 21 0 2 := fa0 (by decide) (List.mem_of_getElem? (i := 271) (by decide +kernel))
theorem fX5_96 : FA RX5 96 0 2 := fa0 (by decide) (List.mem_of_getElem? (i := 272) (by decide +kernel))
theorem fX5_10 : FA RX5 10 5 0 := fa5 (by decide) (List.mem_of_getElem? (i := 280) (by decide +kernel))
theorem fX5_19 : FA RX5 19 5 1 := fa5 (by decide) (List.mem_of_getElem? (i := 281) (by decide +kernel))
theorem fX5_26 : FA RX5 26 5 2 := fa5 (by decide) (List.mem_of_getElem? (i := 282) (by decide +kernel))
theorem fX5_33 : FA RX5 33 5 3 := fa5 (by decide) (List.mem_of_getElem? (i := 283) (by decide +kernel))
theorem fX5_37 : FA RX5 37 5 4 := fa5 (by decide) (List.mem_of_getElem? (i := 284) (by decide +kernel))
theorem fX5_41 : FA RX5 41 5 5 := fa5 (by decide) (List.mem_of_getElem? (i := 285) (by decide +kernel))
theorem fX5_45 : FA RX5 45 5 6 := fa5 (by decide) (List.mem_of_getElem? (i := 286) (by decide +kernel))
theorem fX5_48 : FA RX5 48 5 7 := fa5 (by decide) (List.mem_of_getElem? (i := 287) (by decide +kernel))
theorem fX5_52 : FA RX5 52 5 8 := fa5 (by decide) (List.mem_of_getElem? (i := 288) (by decide +kernel))
theorem fX5_55 : FA RX5 55 5 9 := fa5 (by decide) (List.mem_of_getElem? (i := 289) (by decide +kernel))
theorem fX5_58 : FA RX5 58 5 10 := fa5 (by decide) (List.mem_of_getElem? (i := 290) (by decide +kernel))
theorem fX5_62 : FA RX5 62 5 11 := fa5 (by decide) (List.mem_of_getElem? (i := 291) (by decide +kernel))
theorem fX6_7 : FA RX6 7 6 0 := fa6 (by decide) (List.mem_of_getElem? (i := 734) (by decide +kernel))
theorem fX6_94 : FA RX6 94 6 1 := fa6 (by decide) (List.mem_of_getElem? (i := 735) (by decide +kernel))
theorem fX6_53 : FA RX6 53 6 2 := fa6 (by decide) (List.mem_of_getElem? (i := 736) (by decide +kernel))
theorem fX6_13 : FA RX6 13 6 3 := fa6 (by decide) (List.mem_of_getElem? (i := 737) (by decide +kernel))
theorem fX6_82 : FA RX6 82 6 4 := fa6 (by decide) (List.mem_of_getElem? (i := 738) (by decide +kernel))
theorem fX6_57 : FA RX6 57 6 5 := fa6 (by decide) (List.mem_of_getElem? (i := 739) (by decide +kernel))
theorem fX6_16 : FA RX6 16 6 6 := fa6 (by decide) (List.mem_of_getElem? (i := 740) (by decide +kernel))
theorem fX6_19 : FA RX6 19 6 7 := fa6 (by decide) (List.mem_of_getElem? (i := 741) (by decide +kernel))
theorem fX6_76 : FA RX6 76 6 8 := fa6 (by decide) (List.mem_of_getElem? (i := 742) (by decide +kernel))
theorem fX6_79 : FA RX6 79 6 9 := fa6 (by decide) (List.mem_of_getElem? (i := 743) (by decide +kernel))
theorem fX6_22 : FA RX6 22 6 10 := fa6 (by decide) (List.mem_of_getElem? (i := 744) (by decide +kernel))
theorem fX6_25 : FA RX6 25 6 11 := fa6 (by decide) (List.mem_of_getElem? (i := 745) (by decide +kernel))
theorem fX6_28 : FA RX6 28 6 12 := fa6 (by decide) (List.mem_of_getElem? (i := 746) (by decide +kernel))
theorem fX6_118 : FA RX6 118 6 13 := fa6 (by decide) (List.mem_of_getElem? (i := 747) (by decide +kernel))
theorem fX6_198 : FA RX6 198 6 14 := fa6 (by decide) (List.mem_of_getElem? (i := 748) (by decide +kernel))
theorem fX6_31 : FA RX6 31 6 15 := fa6 (by decide) (List.mem_of_getElem? (i := 749) (by decide +kernel))
theorem fX6_34 : FA RX6 34 6 16 := fa6 (by decide) (List.mem_of_getElem? (i := 750) (by decide +kernel))
theorem fX6_38 : FA RX6 38 6 17 := fa6 (by decide) (List.mem_of_getElem? (i := 751) (by decide +kernel))
theorem fX6_41 : FA RX6 41 6 18 := fa6 (by decide) (List.mem_of_getElem? (i := 752) (by decide +kernel))
theorem fX6_44 : FA RX6 44 6 19 := fa6 (by decide) (List.mem_of_getElem? (i := 753) (by decide +kernel))
theorem fX6_174 : FA RX6 174 6 20 := fa6 (by decide) (List.mem_of_getElem? (i := 754) (by decide +kernel))
theorem fX6_243 : FA RX6 243 6 21 := fa6 (by decide) (List.mem_of_getElem? (i := 755) (by decide +kernel))
theorem fX6_47 : FA RX6 47 6 22 := fa6 (by decide) (List.mem_of_getElem? (i := 756) (by decide +kernel))
theorem fX6_99 : FA RX6 99 6 23 := fa6 (by decide) (List.mem_of_getElem? (i := 757) (by decide +kernel))
theorem fX6_50 : FA RX6 50 6 24 := fa6 (by decide) (List.mem_of_getElem? (i := 758) (by decide +kernel))
theorem fX6_105 : FA RX6 105 6 25 := fa6 (by decide) (List.mem_of_getElem? (i := 759) (by decide +kernel))
theorem fX6_108 : FA RX6 108 6 26 := fa6 (by decide) (List.mem_of_getElem? (i := 760) (by decide +kernel))
/-- a method's words -/
def MW (μ : MT) (n : Nat) : Prop := Cond.code μ.1 μ.2.1 μ.2.2.1 μ.2.2.2 ∈ lw_tbl ∧ Cond.initialized μ.1.cls ∈ lw_tbl ∧ (μ.1.cls ≠ "java/lang/invoke/MethodHandle" ∧ μ.1.cls ≠ "java/lang/invoke/VarHandle") ∧ (parseMethodDescriptor μ.1.desc).map (fun d => d.parameters.length) = some n ∧ μ.2.2.1 ≤ 40
def lkV (own : String) (idx : Nat) (μ : MT) (n ci : Nat) : Prop := MW μ n ∧ Cond.methodLink own idx μ.1 ∈ lw_tbl ∧ Cond.instanceMethod μ.1 ∈ lw_tbl ∧ Cond.selects μ.1.cls μ.1 μ.1 ∈ lw_tbl ∧ (∃ (T : u_T) (N : Nat), vwCl[ci]? = some (μ.1.cls, T, N)) ∧ ci < 7
def lkS (own : String) (idx : Nat) (μ : MT) (n : Nat) : Prop := MW μ n ∧ Cond.methodLink own idx μ.1 ∈ lw_tbl ∧ Cond.static μ.1 ∈ lw_tbl
def lkN (own : String) (idx : Nat) (μ : MT) (n : Nat) : Prop := MW μ n ∧ Cond.methodLinkNest own idx μ.1 RX5 ∈ lw_tbl ∧ Cond.static μ.1 ∈ lw_tbl
def lkI (own : String) (idx : Nat) (μ : MT) (n : Nat) : Prop := MW μ n ∧ Cond.methodLink own idx μ.1 ∈ lw_tbl ∧ Cond.instanceMethod μ.1 ∈ lw_tbl ∧ μ.1.name = "<init>" ∧ μ.2.2.2 = none
def lkX (own : String) (idx : Nat) (μ : MT) (n : Nat) : Prop := MW μ n ∧ Cond.methodLinkNest own idx μ.1 RX5 ∈ lw_tbl ∧ Cond.instanceMethod μ.1 ∈ lw_tbl ∧ μ.1.name = "<init>" ∧ μ.2.2.2 = none
abbrev mX5_init : MT := (yX5_init, cX5_init, 2, none)
theorem wX5_init : MW mX5_init 0 := ⟨List.mem_of_getElem? (i := 63) (by decide +kernel), List.mem_of_getElem? (i := 48) (by decide +kernel), by decide +kernel, by decide +kernel, by decide⟩
abbrev mX4_init : MT := (yX4_init, cX4_init, 1, none)
theorem wX4_init : MW mX4_init 0 := ⟨List.mem_of_getElem? (i := 71) (by decide +kernel), List.mem_of_getElem? (i := 49) (by decide +kernel), by decide +kernel, by decide +kernel, by decide⟩
abbrev mX1_init : MT := (yX1_init, cX1_init, 2, none)
theorem wX1_init : MW mX1_init 0 := ⟨List.mem_of_getElem? (i := 86) (by decide +kernel), List.mem_of_getElem? (i := 50) (by decide +kernel), by decide +kernel, by decide +kernel, by decide⟩
abbrev mX1_fillRows : MT := (yX1_fillRows, cX1_fillRows, 4, none)
theorem wX1_fillRows : MW mX1_fillRows 0 := ⟨List.mem_of_getElem? (i := 91) (by decide +kernel), List.mem_of_getElem? (i := 50) (by decide +kernel), by decide +kernel, by decide +kernel, by decide⟩
abbrev mJ7_fill_53178 : MT := (yJ7_fill_53178, cJ7_fill_53178, 4, none)
theorem wJ7_fill_53178 : MW mJ7_fill_53178 2 := ⟨List.mem_of_getElem? (i := 94) (by decide +kernel), List.mem_of_getElem? (i := 51) (by decide +kernel), by decide +kernel, by decide +kernel, by decide⟩
abbrev mX1_findBursts : MT := (yX1_findBursts, cX1_findBursts, 3, none)
theorem wX1_findBursts : MW mX1_findBursts 0 := ⟨List.mem_of_getElem? (i := 98) (by decide +kernel), List.mem_of_getElem? (i := 50) (by decide +kernel), by decide +kernel, by decide +kernel, by decide⟩
abbrev mX1_noteBurst : MT := (yX1_noteBurst, cX1_noteBurst, 3, none)
theorem wX1_noteBurst : MW mX1_noteBurst 1 := ⟨List.mem_of_getElem? (i := 102) (by decide +kernel), List.mem_of_getElem? (i := 50) (by decide +kernel), by decide +kernel, by decide +kernel, by decide⟩
abbrev mX1_restOf : MT := (yX1_restOf, cX1_restOf, 2, (some .int))
theorem wX1_restOf : MW mX1_restOf 1 := ⟨List.mem_of_getElem? (i := 106) (by decide +kernel), List.mem_of_getElem? (i := 50) (by decide +kernel), by decide +kernel, by decide +kernel, by decide⟩
abbrev mJ9_max_7cf53 : MT := (yJ9_max_7cf53, cJ9_max_7cf53, 2, (some .int))
theorem wJ9_max_7cf53 : MW mJ9_max_7cf53 2 := ⟨List.mem_of_getElem? (i := 109) (by decide +kernel), List.mem_of_getElem? (i := 52) (by decide +kernel), by decide +kernel, by decide +kernel, by decide⟩
abbrev mX2_init : MT := (yX2_init, cX2_init, 1, none)
theorem wX2_init : MW mX2_init 0 := ⟨List.mem_of_getElem? (i := 149) (by decide +kernel), List.mem_of_getElem? (i := 53) (by decide +kernel), by decide +kernel, by decide +kernel, by decide⟩
abbrev mX3_init : MT := (yX3_init, cX3_init, 1, none)
theorem wX3_init : MW mX3_init 0 := ⟨List.mem_of_getElem? (i := 155) (by decide +kernel), List.mem_of_getElem? (i := 54) (by decide +kernel), by decide +kernel, by decide +kernel, by decide⟩
abbrev mX2_clear : MT := (yX2_clear, cX2_clear, 1, none)
theorem wX2_clear : MW mX2_clear 0 := ⟨List.mem_of_getElem? (i := 197) (by decide +kernel), List.mem_of_getElem? (i := 53) (by decide +kernel), by decide +kernel, by decide +kernel, by decide⟩
abbrev mX3_clear : MT := (yX3_clear, cX3_clear, 1, none)
theorem wX3_clear : MW mX3_clear 0 := ⟨List.mem_of_getElem? (i := 202) (by decide +kernel), List.mem_of_getElem? (i := 54) (by decide +kernel), by decide +kernel, by decide +kernel, by decide⟩
abbrev mX3_clearNames : MT := (yX3_clearNames, cX3_clearNames, 1, none)
theorem wX3_clearNames : MW mX3_clearNames 0 := ⟨List.mem_of_getElem? (i := 207) (by decide +kernel), List.mem_of_getElem? (i := 54) (by decide +kernel), by decide +kernel, by decide +kernel, by decide⟩
abbrev mX0_init : MT := (yX0_init, cX0_init, 2, none)
theorem wX0_init : MW mX0_init 0 := ⟨List.mem_of_getElem? (i := 264) (by decide +kernel), List.mem_of_getElem? (i := 55) (by decide +kernel), by decide +kernel, by decide +kernel, by decide⟩
abbrev mX5_write : MT := (yX5_write, cX5_write, 2, (some .int))
theorem wX5_write : MW mX5_write 1 := ⟨List.mem_of_getElem? (i := 321) (by decide +kernel), List.mem_of_getElem? (i := 48) (by decide +kernel), by decide +kernel, by decide +kernel, by decide⟩
abbrev mX4_add : MT := (yX4_add, cX4_add, 2, (some .boolean))
theorem wX4_add : MW mX4_add 1 := ⟨List.mem_of_getElem? (i := 325) (by decide +kernel), List.mem_of_getElem? (i := 49) (by decide +kernel), by decide +kernel, by decide +kernel, by decide⟩
abbrev mX5_wipe : MT := (yX5_wipe, cX5_wipe, 2, (some .int))
theorem wX5_wipe : MW mX5_wipe 0 := ⟨List.mem_of_getElem? (i := 329) (by decide +kernel), List.mem_of_getElem? (i := 48) (by decide +kernel), by decide +kernel, by decide +kernel, by decide⟩
abbrev mX5_fault : MT := (yX5_fault, cX5_fault, 1, (some .int))
theorem wX5_fault : MW mX5_fault 0 := ⟨List.mem_of_getElem? (i := 333) (by decide +kernel), List.mem_of_getElem? (i := 48) (by decide +kernel), by decide +kernel, by decide +kernel, by decide⟩
abbrev mX4_firstFault : MT := (yX4_firstFault, cX4_firstFault, 3, (some .int))
theorem wX4_firstFault : MW mX4_firstFault 0 := ⟨List.mem_of_getElem? (i := 337) (by decide +kernel), List.mem_of_getElem? (i := 49) (by decide +kernel), by decide +kernel, by decide +kernel, by decide⟩
abbrev mJ9_min_7cf53 : MT := (yJ9_min_7cf53, cJ9_min_7cf53, 2, (some .int))
theorem wJ9_min_7cf53 : MW mJ9_min_7cf53 2 := ⟨List.mem_of_getElem? (i := 340) (by decide +kernel), List.mem_of_getElem? (i := 52) (by decide +kernel), by decide +kernel, by decide +kernel, by decide⟩
abbrev mX4_fits : MT := (yX4_fits, cX4_fits, 3, (some .boolean))
theorem wX4_fits : MW mX4_fits 1 := ⟨List.mem_of_getElem? (i := 344) (by decide +kernel), List.mem_of_getElem? (i := 49) (by decide +kernel), by decide +kernel, by decide +kernel, by decide⟩
abbrev mX4_figureAt : MT := (yX4_figureAt, cX4_figureAt, 2, (some .int))
theorem wX4_figureAt : MW mX4_figureAt 1 := ⟨List.mem_of_getElem? (i := 348) (by decide +kernel), List.mem_of_getElem? (i := 49) (by decide +kernel), by decide +kernel, by decide +kernel, by decide⟩
abbrev mX4_endsNumber : MT := (yX4_endsNumber, cX4_endsNumber, 4, (some .boolean))
theorem wX4_endsNumber : MW mX4_endsNumber 1 := ⟨List.mem_of_getElem? (i := 352) (by decide +kernel), List.mem_of_getElem? (i := 49) (by decide +kernel), by decide +kernel, by decide +kernel, by decide⟩
abbrev mX4_numberAt : MT := (yX4_numberAt, cX4_numberAt, 2, (some .int))
theorem wX4_numberAt : MW mX4_numberAt 1 := ⟨List.mem_of_getElem? (i := 356) (by decide +kernel), List.mem_of_getElem? (i := 49) (by decide +kernel), by decide +kernel, by decide +kernel, by decide⟩
abbrev mX5_station : MT := (yX5_station, cX5_station, 2, (some .int))
theorem wX5_station : MW mX5_station 0 := ⟨List.mem_of_getElem? (i := 360) (by decide +kernel), List.mem_of_getElem? (i := 48) (by decide +kernel), by decide +kernel, by decide +kernel, by decide⟩
abbrev mX1_takeFrom : MT := (yX1_takeFrom, cX1_takeFrom, 3, none)
theorem wX1_takeFrom : MW mX1_takeFrom 1 := ⟨List.mem_of_getElem? (i := 364) (by decide +kernel), List.mem_of_getElem? (i := 50) (by decide +kernel), by decide +kernel, by decide +kernel, by decide⟩
abbrev mX0_forget : MT := (yX0_forget, cX0_forget, 1, none)
theorem wX0_forget : MW mX0_forget 0 := ⟨List.mem_of_getElem? (i := 371) (by decide +kernel), List.mem_of_getElem? (i := 55) (by decide +kernel), by decide +kernel, by decide +kernel, by decide⟩
abbrev mX5_about : MT := (yX5_about, cX5_about, 2, (some .int))
theorem wX5_about : MW mX5_about 1 := ⟨List.mem_of_getElem? (i := 375) (by decide +kernel), List.mem_of_getElem? (i := 48) (by decide +kernel), by decide +kernel, by decide +kernel, by decide⟩
abbrev mX2_tell : MT := (yX2_tell, cX2_tell, 2, (some .int))
theorem wX2_tell : MW mX2_tell 1 := ⟨List.mem_of_getElem? (i := 379) (by decide +kernel), List.mem_of_getElem? (i := 53) (by decide +kernel), by decide +kernel, by decide +kernel, by decide⟩
abbrev mX2_syncBit : MT := (yX2_syncBit, cX2_syncBit, 1, (some .int))
theorem wX2_syncBit : MW mX2_syncBit 0 := ⟨List.mem_of_getElem? (i := 383) (by decide +kernel), List.mem_of_getElem? (i := 53) (by decide +kernel), by decide +kernel, by decide +kernel, by decide⟩
abbrev mX5_offset : MT := (yX5_offset, cX5_offset, 2, (some .int))
theorem wX5_offset : MW mX5_offset 1 := ⟨List.mem_of_getElem? (i := 387) (by decide +kernel), List.mem_of_getElem? (i := 48) (by decide +kernel), by decide +kernel, by decide +kernel, by decide⟩
abbrev mX5_isOffset : MT := (yX5_isOffset, cX5_isOffset, 1, (some .boolean))
theorem wX5_isOffset : MW mX5_isOffset 1 := ⟨List.mem_of_getElem? (i := 390) (by decide +kernel), List.mem_of_getElem? (i := 48) (by decide +kernel), by decide +kernel, by decide +kernel, by decide⟩
abbrev mX5_told : MT := (yX5_told, cX5_told, 2, (some .int))
theorem wX5_told : MW mX5_told 1 := ⟨List.mem_of_getElem? (i := 394) (by decide +kernel), List.mem_of_getElem? (i := 48) (by decide +kernel), by decide +kernel, by decide +kernel, by decide⟩
abbrev mX5_presentBits : MT := (yX5_presentBits, cX5_presentBits, 3, (some .int))
theorem wX5_presentBits : MW mX5_presentBits 1 := ⟨List.mem_of_getElem? (i := 397) (by decide +kernel), List.mem_of_getElem? (i := 48) (by decide +kernel), by decide +kernel, by decide +kernel, by decide⟩
abbrev mX5_part : MT := (yX5_part, cX5_part, 2, (some .int))
theorem wX5_part : MW mX5_part 1 := ⟨List.mem_of_getElem? (i := 401) (by decide +kernel), List.mem_of_getElem? (i := 48) (by decide +kernel), by decide +kernel, by decide +kernel, by decide⟩
abbrev mX5_name : MT := (yX5_name, cX5_name, 3, (some .int))
theorem wX5_name : MW mX5_name 2 := ⟨List.mem_of_getElem? (i := 405) (by decide +kernel), List.mem_of_getElem? (i := 48) (by decide +kernel), by decide +kernel, by decide +kernel, by decide⟩
abbrev mX5_isPlace : MT := (yX5_isPlace, cX5_isPlace, 1, (some .boolean))
theorem wX5_isPlace : MW mX5_isPlace 1 := ⟨List.mem_of_getElem? (i := 408) (by decide +kernel), List.mem_of_getElem? (i := 48) (by decide +kernel), by decide +kernel, by decide +kernel, by decide⟩
abbrev mX5_list : MT := (yX5_list, cX5_list, 4, (some .int))
theorem wX5_list : MW mX5_list 2 := ⟨List.mem_of_getElem? (i := 412) (by decide +kernel), List.mem_of_getElem? (i := 48) (by decide +kernel), by decide +kernel, by decide +kernel, by decide⟩
abbrev mX3_indexInOrder : MT := (yX3_indexInOrder, cX3_indexInOrder, 5, (some .int))
theorem wX3_indexInOrder : MW mX3_indexInOrder 1 := ⟨List.mem_of_getElem? (i := 416) (by decide +kernel), List.mem_of_getElem? (i := 54) (by decide +kernel), by decide +kernel, by decide +kernel, by decide⟩
abbrev mX3_comesBefore : MT := (yX3_comesBefore, cX3_comesBefore, 3, (some .boolean))
theorem wX3_comesBefore : MW mX3_comesBefore 2 := ⟨List.mem_of_getElem? (i := 420) (by decide +kernel), List.mem_of_getElem? (i := 54) (by decide +kernel), by decide +kernel, by decide +kernel, by decide⟩
abbrev mX5_word : MT := (yX5_word, cX5_word, 3, (some .int))
theorem wX5_word : MW mX5_word 2 := ⟨List.mem_of_getElem? (i := 424) (by decide +kernel), List.mem_of_getElem? (i := 48) (by decide +kernel), by decide +kernel, by decide +kernel, by decide⟩
abbrev mX5_isByte : MT := (yX5_isByte, cX5_isByte, 1, (some .boolean))
theorem wX5_isByte : MW mX5_isByte 1 := ⟨List.mem_of_getElem? (i := 427) (by decide +kernel), List.mem_of_getElem? (i := 48) (by decide +kernel), by decide +kernel, by decide +kernel, by decide⟩
abbrev mX1_wordOf : MT := (yX1_wordOf, cX1_wordOf, 3, (some .int))
theorem wX1_wordOf : MW mX1_wordOf 2 := ⟨List.mem_of_getElem? (i := 431) (by decide +kernel), List.mem_of_getElem? (i := 50) (by decide +kernel), by decide +kernel, by decide +kernel, by decide⟩
abbrev mX1_plainWord : MT := (yX1_plainWord, cX1_plainWord, 2, (some .int))
theorem wX1_plainWord : MW mX1_plainWord 1 := ⟨List.mem_of_getElem? (i := 435) (by decide +kernel), List.mem_of_getElem? (i := 50) (by decide +kernel), by decide +kernel, by decide +kernel, by decide⟩
abbrev mX5_rest : MT := (yX5_rest, cX5_rest, 3, (some .int))
theorem wX5_rest : MW mX5_rest 2 := ⟨List.mem_of_getElem? (i := 439) (by decide +kernel), List.mem_of_getElem? (i := 48) (by decide +kernel), by decide +kernel, by decide +kernel, by decide⟩
abbrev mX5_isWord : MT := (yX5_isWord, cX5_isWord, 1, (some .boolean))
theorem wX5_isWord : MW mX5_isWord 1 := ⟨List.mem_of_getElem? (i := 442) (by decide +kernel), List.mem_of_getElem? (i := 48) (by decide +kernel), by decide +kernel, by decide +kernel, by decide⟩
abbrev mX1_restFor : MT := (yX1_restFor, cX1_restFor, 3, (some .int))
theorem wX1_restFor : MW mX1_restFor 2 := ⟨List.mem_of_getElem? (i := 446) (by decide +kernel), List.mem_of_getElem? (i := 50) (by decide +kernel), by decide +kernel, by decide +kernel, by decide⟩
abbrev mX5_mended : MT := (yX5_mended, cX5_mended, 4, (some .int))
theorem wX5_mended : MW mX5_mended 2 := ⟨List.mem_of_getElem? (i := 450) (by decide +kernel), List.mem_of_getElem? (i := 48) (by decide +kernel), by decide +kernel, by decide +kernel, by decide⟩
abbrev mX1_blockOf : MT := (yX1_blockOf, cX1_blockOf, 4, (some .int))
theorem wX1_blockOf : MW mX1_blockOf 2 := ⟨List.mem_of_getElem? (i := 454) (by decide +kernel), List.mem_of_getElem? (i := 50) (by decide +kernel), by decide +kernel, by decide +kernel, by decide⟩
abbrev mX5_distance : MT := (yX5_distance, cX5_distance, 3, (some .int))
theorem wX5_distance : MW mX5_distance 0 := ⟨List.mem_of_getElem? (i := 459) (by decide +kernel), List.mem_of_getElem? (i := 48) (by decide +kernel), by decide +kernel, by decide +kernel, by decide⟩
abbrev mJ6_bitCount_0f7a4 : MT := (yJ6_bitCount_0f7a4, cJ6_bitCount_0f7a4, 1, (some .int))
theorem wJ6_bitCount_0f7a4 : MW mJ6_bitCount_0f7a4 1 := ⟨List.mem_of_getElem? (i := 463) (by decide +kernel), List.mem_of_getElem? (i := 57) (by decide +kernel), by decide +kernel, by decide +kernel, by decide⟩
abbrev mX5_flips : MT := (yX5_flips, cX5_flips, 3, (some .int))
theorem wX5_flips : MW mX5_flips 2 := ⟨List.mem_of_getElem? (i := 471) (by decide +kernel), List.mem_of_getElem? (i := 48) (by decide +kernel), by decide +kernel, by decide +kernel, by decide⟩
abbrev mX5_setsWithFate : MT := (yX5_setsWithFate, cX5_setsWithFate, 7, (some .int))
theorem wX5_setsWithFate : MW mX5_setsWithFate 5 := ⟨List.mem_of_getElem? (i := 474) (by decide +kernel), List.mem_of_getElem? (i := 48) (by decide +kernel), by decide +kernel, by decide +kernel, by decide⟩
abbrev mX1_fateOf : MT := (yX1_fateOf, cX1_fateOf, 3, (some .int))
theorem wX1_fateOf : MW mX1_fateOf 1 := ⟨List.mem_of_getElem? (i := 478) (by decide +kernel), List.mem_of_getElem? (i := 50) (by decide +kernel), by decide +kernel, by decide +kernel, by decide⟩
abbrev mX5_slips : MT := (yX5_slips, cX5_slips, 7, (some .int))
theorem wX5_slips : MW mX5_slips 3 := ⟨List.mem_of_getElem? (i := 482) (by decide +kernel), List.mem_of_getElem? (i := 48) (by decide +kernel), by decide +kernel, by decide +kernel, by decide⟩
abbrev mX5_nextOffset : MT := (yX5_nextOffset, cX5_nextOffset, 1, (some .int))
theorem wX5_nextOffset : MW mX5_nextOffset 1 := ⟨List.mem_of_getElem? (i := 485) (by decide +kernel), List.mem_of_getElem? (i := 48) (by decide +kernel), by decide +kernel, by decide +kernel, by decide⟩
abbrev mX1_hitOf : MT := (yX1_hitOf, cX1_hitOf, 2, (some .int))
theorem wX1_hitOf : MW mX1_hitOf 1 := ⟨List.mem_of_getElem? (i := 489) (by decide +kernel), List.mem_of_getElem? (i := 50) (by decide +kernel), by decide +kernel, by decide +kernel, by decide⟩
abbrev mX5_bits : MT := (yX5_bits, cX5_bits, 3, (some .int))
theorem wX5_bits : MW mX5_bits 2 := ⟨List.mem_of_getElem? (i := 493) (by decide +kernel), List.mem_of_getElem? (i := 48) (by decide +kernel), by decide +kernel, by decide +kernel, by decide⟩
abbrev mX0_remember : MT := (yX0_remember, cX0_remember, 2, none)
theorem wX0_remember : MW mX0_remember 1 := ⟨List.mem_of_getElem? (i := 497) (by decide +kernel), List.mem_of_getElem? (i := 55) (by decide +kernel), by decide +kernel, by decide +kernel, by decide⟩
abbrev mX2_copyFrom : MT := (yX2_copyFrom, cX2_copyFrom, 2, none)
theorem wX2_copyFrom : MW mX2_copyFrom 1 := ⟨List.mem_of_getElem? (i := 501) (by decide +kernel), List.mem_of_getElem? (i := 53) (by decide +kernel), by decide +kernel, by decide +kernel, by decide⟩
abbrev mX3_copyFrom : MT := (yX3_copyFrom, cX3_copyFrom, 2, none)
theorem wX3_copyFrom : MW mX3_copyFrom 1 := ⟨List.mem_of_getElem? (i := 508) (by decide +kernel), List.mem_of_getElem? (i := 54) (by decide +kernel), by decide +kernel, by decide +kernel, by decide⟩
abbrev mX2_hearBits : MT := (yX2_hearBits, cX2_hearBits, 7, none)
theorem wX2_hearBits : MW mX2_hearBits 3 := ⟨List.mem_of_getElem? (i := 514) (by decide +kernel), List.mem_of_getElem? (i := 53) (by decide +kernel), by decide +kernel, by decide +kernel, by decide⟩
abbrev mX2_goOn : MT := (yX2_goOn, cX2_goOn, 2, (some .boolean))
theorem wX2_goOn : MW mX2_goOn 1 := ⟨List.mem_of_getElem? (i := 518) (by decide +kernel), List.mem_of_getElem? (i := 53) (by decide +kernel), by decide +kernel, by decide +kernel, by decide⟩
abbrev mX2_takeBlock : MT := (yX2_takeBlock, cX2_takeBlock, 3, none)
theorem wX2_takeBlock : MW mX2_takeBlock 1 := ⟨List.mem_of_getElem? (i := 522) (by decide +kernel), List.mem_of_getElem? (i := 53) (by decide +kernel), by decide +kernel, by decide +kernel, by decide⟩
abbrev mX2_countBlock : MT := (yX2_countBlock, cX2_countBlock, 2, none)
theorem wX2_countBlock : MW mX2_countBlock 1 := ⟨List.mem_of_getElem? (i := 527) (by decide +kernel), List.mem_of_getElem? (i := 53) (by decide +kernel), by decide +kernel, by decide +kernel, by decide⟩
abbrev mX2_lose : MT := (yX2_lose, cX2_lose, 1, none)
theorem wX2_lose : MW mX2_lose 0 := ⟨List.mem_of_getElem? (i := 531) (by decide +kernel), List.mem_of_getElem? (i := 53) (by decide +kernel), by decide +kernel, by decide +kernel, by decide⟩
abbrev mX2_seekSync : MT := (yX2_seekSync, cX2_seekSync, 3, (some .boolean))
theorem wX2_seekSync : MW mX2_seekSync 1 := ⟨List.mem_of_getElem? (i := 536) (by decide +kernel), List.mem_of_getElem? (i := 53) (by decide +kernel), by decide +kernel, by decide +kernel, by decide⟩
abbrev mX2_fitsLastHit : MT := (yX2_fitsLastHit, cX2_fitsLastHit, 4, (some .boolean))
theorem wX2_fitsLastHit : MW mX2_fitsLastHit 1 := ⟨List.mem_of_getElem? (i := 541) (by decide +kernel), List.mem_of_getElem? (i := 53) (by decide +kernel), by decide +kernel, by decide +kernel, by decide⟩
abbrev mX2_findSync : MT := (yX2_findSync, cX2_findSync, 2, none)
theorem wX2_findSync : MW mX2_findSync 1 := ⟨List.mem_of_getElem? (i := 545) (by decide +kernel), List.mem_of_getElem? (i := 53) (by decide +kernel), by decide +kernel, by decide +kernel, by decide⟩
abbrev mX3_takeGroup : MT := (yX3_takeGroup, cX3_takeGroup, 3, none)
theorem wX3_takeGroup : MW mX3_takeGroup 1 := ⟨List.mem_of_getElem? (i := 549) (by decide +kernel), List.mem_of_getElem? (i := 54) (by decide +kernel), by decide +kernel, by decide +kernel, by decide⟩
abbrev mX3_takeProgram : MT := (yX3_takeProgram, cX3_takeProgram, 2, none)
theorem wX3_takeProgram : MW mX3_takeProgram 1 := ⟨List.mem_of_getElem? (i := 553) (by decide +kernel), List.mem_of_getElem? (i := 54) (by decide +kernel), by decide +kernel, by decide +kernel, by decide⟩
abbrev mX3_takePair : MT := (yX3_takePair, cX3_takePair, 5, none)
theorem wX3_takePair : MW mX3_takePair 3 := ⟨List.mem_of_getElem? (i := 557) (by decide +kernel), List.mem_of_getElem? (i := 54) (by decide +kernel), by decide +kernel, by decide +kernel, by decide⟩
abbrev mX3_takeClock : MT := (yX3_takeClock, cX3_takeClock, 3, none)
theorem wX3_takeClock : MW mX3_takeClock 2 := ⟨List.mem_of_getElem? (i := 561) (by decide +kernel), List.mem_of_getElem? (i := 54) (by decide +kernel), by decide +kernel, by decide +kernel, by decide⟩
abbrev mX3_takeStation : MT := (yX3_takeStation, cX3_takeStation, 3, none)
theorem wX3_takeStation : MW mX3_takeStation 1 := ⟨List.mem_of_getElem? (i := 565) (by decide +kernel), List.mem_of_getElem? (i := 54) (by decide +kernel), by decide +kernel, by decide +kernel, by decide⟩
abbrev mX3_takeFlag : MT := (yX3_takeFlag, cX3_takeFlag, 2, none)
theorem wX3_takeFlag : MW mX3_takeFlag 1 := ⟨List.mem_of_getElem? (i := 570) (by decide +kernel), List.mem_of_getElem? (i := 54) (by decide +kernel), by decide +kernel, by decide +kernel, by decide⟩
abbrev mX5_hear : MT := (yX5_hear, cX5_hear, 4, (some .int))
theorem wX5_hear : MW mX5_hear 3 := ⟨List.mem_of_getElem? (i := 575) (by decide +kernel), List.mem_of_getElem? (i := 48) (by decide +kernel), by decide +kernel, by decide +kernel, by decide⟩
abbrev mX5_group : MT := (yX5_group, cX5_group, 4, (some .int))
theorem wX5_group : MW mX5_group 2 := ⟨List.mem_of_getElem? (i := 579) (by decide +kernel), List.mem_of_getElem? (i := 48) (by decide +kernel), by decide +kernel, by decide +kernel, by decide⟩
abbrev mX5_hearGroups : MT := (yX5_hearGroups, cX5_hearGroups, 7, none)
theorem wX5_hearGroups : MW mX5_hearGroups 3 := ⟨List.mem_of_getElem? (i := 583) (by decide +kernel), List.mem_of_getElem? (i := 48) (by decide +kernel), by decide +kernel, by decide +kernel, by decide⟩
abbrev mX1_groupRow : MT := (yX1_groupRow, cX1_groupRow, 6, (some .long))
theorem wX1_groupRow : MW mX1_groupRow 1 := ⟨List.mem_of_getElem? (i := 587) (by decide +kernel), List.mem_of_getElem? (i := 50) (by decide +kernel), by decide +kernel, by decide +kernel, by decide⟩
abbrev mX5_reset : MT := (yX5_reset, cX5_reset, 2, (some .int))
theorem wX5_reset : MW mX5_reset 0 := ⟨List.mem_of_getElem? (i := 592) (by decide +kernel), List.mem_of_getElem? (i := 48) (by decide +kernel), by decide +kernel, by decide +kernel, by decide⟩
abbrev mX2_startOver : MT := (yX2_startOver, cX2_startOver, 1, none)
theorem wX2_startOver : MW mX2_startOver 0 := ⟨List.mem_of_getElem? (i := 596) (by decide +kernel), List.mem_of_getElem? (i := 53) (by decide +kernel), by decide +kernel, by decide +kernel, by decide⟩
abbrev mX5_undo : MT := (yX5_undo, cX5_undo, 1, (some .int))
theorem wX5_undo : MW mX5_undo 0 := ⟨List.mem_of_getElem? (i := 600) (by decide +kernel), List.mem_of_getElem? (i := 48) (by decide +kernel), by decide +kernel, by decide +kernel, by decide⟩
abbrev mX0_takeBack : MT := (yX0_takeBack, cX0_takeBack, 2, (some .boolean))
theorem wX0_takeBack : MW mX0_takeBack 1 := ⟨List.mem_of_getElem? (i := 604) (by decide +kernel), List.mem_of_getElem? (i := 55) (by decide +kernel), by decide +kernel, by decide +kernel, by decide⟩
abbrev mX5_ahead : MT := (yX5_ahead, cX5_ahead, 5, (some .int))
theorem wX5_ahead : MW mX5_ahead 3 := ⟨List.mem_of_getElem? (i := 608) (by decide +kernel), List.mem_of_getElem? (i := 48) (by decide +kernel), by decide +kernel, by decide +kernel, by decide⟩
abbrev mX5_freshTrial : MT := (yX5_freshTrial, cX5_freshTrial, 1, (some (.object "SideWords$Receiver")))
theorem wX5_freshTrial : MW mX5_freshTrial 0 := ⟨List.mem_of_getElem? (i := 612) (by decide +kernel), List.mem_of_getElem? (i := 48) (by decide +kernel), by decide +kernel, by decide +kernel, by decide⟩
abbrev mX5_needs : MT := (yX5_needs, cX5_needs, 6, (some .int))
theorem wX5_needs : MW mX5_needs 1 := ⟨List.mem_of_getElem? (i := 617) (by decide +kernel), List.mem_of_getElem? (i := 48) (by decide +kernel), by decide +kernel, by decide +kernel, by decide⟩
abbrev mX5_judge : MT := (yX5_judge, cX5_judge, 7, (some .int))
theorem wX5_judge : MW mX5_judge 2 := ⟨List.mem_of_getElem? (i := 621) (by decide +kernel), List.mem_of_getElem? (i := 48) (by decide +kernel), by decide +kernel, by decide +kernel, by decide⟩
abbrev mX5_withoutLast : MT := (yX5_withoutLast, cX5_withoutLast, 6, (some .long))
theorem wX5_withoutLast : MW mX5_withoutLast 2 := ⟨List.mem_of_getElem? (i := 624) (by decide +kernel), List.mem_of_getElem? (i := 48) (by decide +kernel), by decide +kernel, by decide +kernel, by decide⟩
abbrev mX5_isSo : MT := (yX5_isSo, cX5_isSo, 6, (some .boolean))
theorem wX5_isSo : MW mX5_isSo 2 := ⟨List.mem_of_getElem? (i := 629) (by decide +kernel), List.mem_of_getElem? (i := 48) (by decide +kernel), by decide +kernel, by decide +kernel, by decide⟩
abbrev mX5_canHear : MT := (yX5_canHear, cX5_canHear, 4, (some .boolean))
theorem wX5_canHear : MW mX5_canHear 3 := ⟨List.mem_of_getElem? (i := 633) (by decide +kernel), List.mem_of_getElem? (i := 48) (by decide +kernel), by decide +kernel, by decide +kernel, by decide⟩
abbrev mX5_canReset : MT := (yX5_canReset, cX5_canReset, 2, (some .boolean))
theorem wX5_canReset : MW mX5_canReset 2 := ⟨List.mem_of_getElem? (i := 636) (by decide +kernel), List.mem_of_getElem? (i := 48) (by decide +kernel), by decide +kernel, by decide +kernel, by decide⟩
abbrev mX5_see : MT := (yX5_see, cX5_see, 4, (some .int))
theorem wX5_see : MW mX5_see 3 := ⟨List.mem_of_getElem? (i := 640) (by decide +kernel), List.mem_of_getElem? (i := 48) (by decide +kernel), by decide +kernel, by decide +kernel, by decide⟩
abbrev mX5_unsee : MT := (yX5_unsee, cX5_unsee, 2, (some .int))
theorem wX5_unsee : MW mX5_unsee 0 := ⟨List.mem_of_getElem? (i := 644) (by decide +kernel), List.mem_of_getElem? (i := 48) (by decide +kernel), by decide +kernel, by decide +kernel, by decide⟩
abbrev mX5_which : MT := (yX5_which, cX5_which, 4, (some .long))
theorem wX5_which : MW mX5_which 0 := ⟨List.mem_of_getElem? (i := 648) (by decide +kernel), List.mem_of_getElem? (i := 48) (by decide +kernel), by decide +kernel, by decide +kernel, by decide⟩
abbrev mX5_placesFitting : MT := (yX5_placesFitting, cX5_placesFitting, 13, (some .long))
theorem wX5_placesFitting : MW mX5_placesFitting 2 := ⟨List.mem_of_getElem? (i := 653) (by decide +kernel), List.mem_of_getElem? (i := 48) (by decide +kernel), by decide +kernel, by decide +kernel, by decide⟩
abbrev mX2_countOf : MT := (yX2_countOf, cX2_countOf, 2, (some .int))
theorem wX2_countOf : MW mX2_countOf 1 := ⟨List.mem_of_getElem? (i := 657) (by decide +kernel), List.mem_of_getElem? (i := 53) (by decide +kernel), by decide +kernel, by decide +kernel, by decide⟩
abbrev mX5_share : MT := (yX5_share, cX5_share, 7, (some .int))
theorem wX5_share : MW mX5_share 3 := ⟨List.mem_of_getElem? (i := 661) (by decide +kernel), List.mem_of_getElem? (i := 48) (by decide +kernel), by decide +kernel, by decide +kernel, by decide⟩
abbrev mX5_goodBehind : MT := (yX5_goodBehind, cX5_goodBehind, 7, (some .int))
theorem wX5_goodBehind : MW mX5_goodBehind 2 := ⟨List.mem_of_getElem? (i := 665) (by decide +kernel), List.mem_of_getElem? (i := 48) (by decide +kernel), by decide +kernel, by decide +kernel, by decide⟩
abbrev mX5_fraction : MT := (yX5_fraction, cX5_fraction, 4, (some .int))
theorem wX5_fraction : MW mX5_fraction 3 := ⟨List.mem_of_getElem? (i := 671) (by decide +kernel), List.mem_of_getElem? (i := 48) (by decide +kernel), by decide +kernel, by decide +kernel, by decide⟩
abbrev mJ9_abs_0f7a4 : MT := (yJ9_abs_0f7a4, cJ9_abs_0f7a4, 1, (some .int))
theorem wJ9_abs_0f7a4 : MW mJ9_abs_0f7a4 1 := ⟨List.mem_of_getElem? (i := 674) (by decide +kernel), List.mem_of_getElem? (i := 52) (by decide +kernel), by decide +kernel, by decide +kernel, by decide⟩
abbrev mX5_greatestDivisor : MT := (yX5_greatestDivisor, cX5_greatestDivisor, 6, (some .int))
theorem wX5_greatestDivisor : MW mX5_greatestDivisor 2 := ⟨List.mem_of_getElem? (i := 677) (by decide +kernel), List.mem_of_getElem? (i := 48) (by decide +kernel), by decide +kernel, by decide +kernel, by decide⟩
abbrev mX5_chance : MT := (yX5_chance, cX5_chance, 8, (some .int))
theorem wX5_chance : MW mX5_chance 4 := ⟨List.mem_of_getElem? (i := 681) (by decide +kernel), List.mem_of_getElem? (i := 48) (by decide +kernel), by decide +kernel, by decide +kernel, by decide⟩
abbrev mX5_waysToSync : MT := (yX5_waysToSync, cX5_waysToSync, 11, (some .int))
theorem wX5_waysToSync : MW mX5_waysToSync 6 := ⟨List.mem_of_getElem? (i := 684) (by decide +kernel), List.mem_of_getElem? (i := 48) (by decide +kernel), by decide +kernel, by decide +kernel, by decide⟩
abbrev mX5_seed : MT := (yX5_seed, cX5_seed, 5, (some .long))
theorem wX5_seed : MW mX5_seed 1 := ⟨List.mem_of_getElem? (i := 688) (by decide +kernel), List.mem_of_getElem? (i := 48) (by decide +kernel), by decide +kernel, by decide +kernel, by decide⟩
abbrev mX5_drawn : MT := (yX5_drawn, cX5_drawn, 5, (some .int))
theorem wX5_drawn : MW mX5_drawn 1 := ⟨List.mem_of_getElem? (i := 692) (by decide +kernel), List.mem_of_getElem? (i := 48) (by decide +kernel), by decide +kernel, by decide +kernel, by decide⟩
abbrev mX5_drawnWord : MT := (yX5_drawnWord, cX5_drawnWord, 4, (some .int))
theorem wX5_drawnWord : MW mX5_drawnWord 2 := ⟨List.mem_of_getElem? (i := 698) (by decide +kernel), List.mem_of_getElem? (i := 48) (by decide +kernel), by decide +kernel, by decide +kernel, by decide⟩
abbrev mX5_keep : MT := (yX5_keep, cX5_keep, 2, (some .int))
theorem wX5_keep : MW mX5_keep 1 := ⟨List.mem_of_getElem? (i := 702) (by decide +kernel), List.mem_of_getElem? (i := 48) (by decide +kernel), by decide +kernel, by decide +kernel, by decide⟩
abbrev mX5_isSlot : MT := (yX5_isSlot, cX5_isSlot, 1, (some .boolean))
theorem wX5_isSlot : MW mX5_isSlot 1 := ⟨List.mem_of_getElem? (i := 705) (by decide +kernel), List.mem_of_getElem? (i := 48) (by decide +kernel), by decide +kernel, by decide +kernel, by decide⟩
abbrev mX5_again : MT := (yX5_again, cX5_again, 2, (some .int))
theorem wX5_again : MW mX5_again 1 := ⟨List.mem_of_getElem? (i := 709) (by decide +kernel), List.mem_of_getElem? (i := 48) (by decide +kernel), by decide +kernel, by decide +kernel, by decide⟩
abbrev mX6_init : MT := (yX6_init, cX6_init, 2, none)
theorem wX6_init : MW mX6_init 0 := ⟨List.mem_of_getElem? (i := 714) (by decide +kernel), List.mem_of_getElem? (i := 56) (by decide +kernel), by decide +kernel, by decide +kernel, by decide⟩
abbrev mX6_layBursts : MT := (yX6_layBursts, cX6_layBursts, 3, none)
theorem wX6_layBursts : MW mX6_layBursts 0 := ⟨List.mem_of_getElem? (i := 719) (by decide +kernel), List.mem_of_getElem? (i := 56) (by decide +kernel), by decide +kernel, by decide +kernel, by decide⟩
abbrev mX6_spanOf : MT := (yX6_spanOf, cX6_spanOf, 3, (some .int))
theorem wX6_spanOf : MW mX6_spanOf 1 := ⟨List.mem_of_getElem? (i := 722) (by decide +kernel), List.mem_of_getElem? (i := 56) (by decide +kernel), by decide +kernel, by decide +kernel, by decide⟩
abbrev mX6_has : MT := (yX6_has, cX6_has, 2, (some .boolean))
theorem wX6_has : MW mX6_has 2 := ⟨List.mem_of_getElem? (i := 725) (by decide +kernel), List.mem_of_getElem? (i := 56) (by decide +kernel), by decide +kernel, by decide +kernel, by decide⟩
abbrev mX6_left : MT := (yX6_left, cX6_left, 4, (some .int))
theorem wX6_left : MW mX6_left 1 := ⟨List.mem_of_getElem? (i := 729) (by decide +kernel), List.mem_of_getElem? (i := 56) (by decide +kernel), by decide +kernel, by decide +kernel, by decide⟩
abbrev mX6_fresh : MT := (yX6_fresh, cX6_fresh, 2, none)
theorem wX6_fresh : MW mX6_fresh 0 := ⟨List.mem_of_getElem? (i := 733) (by decide +kernel), List.mem_of_getElem? (i := 56) (by decide +kernel), by decide +kernel, by decide +kernel, by decide⟩
abbrev mX6_write : MT := (yX6_write, cX6_write, 2, (some .int))
theorem wX6_write : MW mX6_write 1 := ⟨List.mem_of_getElem? (i := 819) (by decide +kernel), List.mem_of_getElem? (i := 56) (by decide +kernel), by decide +kernel, by decide +kernel, by decide⟩
abbrev mX6_in : MT := (yX6_in, cX6_in, 6, (some .boolean))
theorem wX6_in : MW mX6_in 3 := ⟨List.mem_of_getElem? (i := 823) (by decide +kernel), List.mem_of_getElem? (i := 56) (by decide +kernel), by decide +kernel, by decide +kernel, by decide⟩
abbrev mX6_wipe : MT := (yX6_wipe, cX6_wipe, 2, (some .int))
theorem wX6_wipe : MW mX6_wipe 0 := ⟨List.mem_of_getElem? (i := 827) (by decide +kernel), List.mem_of_getElem? (i := 56) (by decide +kernel), by decide +kernel, by decide +kernel, by decide⟩
abbrev mX6_fault : MT := (yX6_fault, cX6_fault, 1, (some .int))
theorem wX6_fault : MW mX6_fault 0 := ⟨List.mem_of_getElem? (i := 831) (by decide +kernel), List.mem_of_getElem? (i := 56) (by decide +kernel), by decide +kernel, by decide +kernel, by decide⟩
abbrev mX6_readText : MT := (yX6_readText, cX6_readText, 2, (some .int))
theorem wX6_readText : MW mX6_readText 0 := ⟨List.mem_of_getElem? (i := 835) (by decide +kernel), List.mem_of_getElem? (i := 56) (by decide +kernel), by decide +kernel, by decide +kernel, by decide⟩
abbrev mX6_take : MT := (yX6_take, cX6_take, 5, (some .boolean))
theorem wX6_take : MW mX6_take 2 := ⟨List.mem_of_getElem? (i := 839) (by decide +kernel), List.mem_of_getElem? (i := 56) (by decide +kernel), by decide +kernel, by decide +kernel, by decide⟩
abbrev mX6_isNew : MT := (yX6_isNew, cX6_isNew, 5, (some .boolean))
theorem wX6_isNew : MW mX6_isNew 2 := ⟨List.mem_of_getElem? (i := 844) (by decide +kernel), List.mem_of_getElem? (i := 56) (by decide +kernel), by decide +kernel, by decide +kernel, by decide⟩
abbrev mX6_station : MT := (yX6_station, cX6_station, 2, (some .int))
theorem wX6_station : MW mX6_station 0 := ⟨List.mem_of_getElem? (i := 848) (by decide +kernel), List.mem_of_getElem? (i := 56) (by decide +kernel), by decide +kernel, by decide +kernel, by decide⟩
abbrev mX6_about : MT := (yX6_about, cX6_about, 2, (some .int))
theorem wX6_about : MW mX6_about 1 := ⟨List.mem_of_getElem? (i := 852) (by decide +kernel), List.mem_of_getElem? (i := 56) (by decide +kernel), by decide +kernel, by decide +kernel, by decide⟩
abbrev mX6_tell : MT := (yX6_tell, cX6_tell, 4, (some .int))
theorem wX6_tell : MW mX6_tell 2 := ⟨List.mem_of_getElem? (i := 858) (by decide +kernel), List.mem_of_getElem? (i := 56) (by decide +kernel), by decide +kernel, by decide +kernel, by decide⟩
abbrev mX6_offset : MT := (yX6_offset, cX6_offset, 2, (some .int))
theorem wX6_offset : MW mX6_offset 1 := ⟨List.mem_of_getElem? (i := 862) (by decide +kernel), List.mem_of_getElem? (i := 56) (by decide +kernel), by decide +kernel, by decide +kernel, by decide⟩
abbrev mX6_isOffset : MT := (yX6_isOffset, cX6_isOffset, 1, (some .boolean))
theorem wX6_isOffset : MW mX6_isOffset 1 := ⟨List.mem_of_getElem? (i := 865) (by decide +kernel), List.mem_of_getElem? (i := 56) (by decide +kernel), by decide +kernel, by decide +kernel, by decide⟩
abbrev mX6_told : MT := (yX6_told, cX6_told, 2, (some .int))
theorem wX6_told : MW mX6_told 1 := ⟨List.mem_of_getElem? (i := 869) (by decide +kernel), List.mem_of_getElem? (i := 56) (by decide +kernel), by decide +kernel, by decide +kernel, by decide⟩
abbrev mX6_thereAre : MT := (yX6_thereAre, cX6_thereAre, 4, (some .int))
theorem wX6_thereAre : MW mX6_thereAre 1 := ⟨List.mem_of_getElem? (i := 873) (by decide +kernel), List.mem_of_getElem? (i := 56) (by decide +kernel), by decide +kernel, by decide +kernel, by decide⟩
abbrev mX6_part : MT := (yX6_part, cX6_part, 2, (some .int))
theorem wX6_part : MW mX6_part 1 := ⟨List.mem_of_getElem? (i := 877) (by decide +kernel), List.mem_of_getElem? (i := 56) (by decide +kernel), by decide +kernel, by decide +kernel, by decide⟩
abbrev mX6_name : MT := (yX6_name, cX6_name, 3, (some .int))
theorem wX6_name : MW mX6_name 2 := ⟨List.mem_of_getElem? (i := 881) (by decide +kernel), List.mem_of_getElem? (i := 56) (by decide +kernel), by decide +kernel, by decide +kernel, by decide⟩
abbrev mX6_list : MT := (yX6_list, cX6_list, 5, (some .int))
theorem wX6_list : MW mX6_list 2 := ⟨List.mem_of_getElem? (i := 885) (by decide +kernel), List.mem_of_getElem? (i := 56) (by decide +kernel), by decide +kernel, by decide +kernel, by decide⟩
abbrev mX6_aheadOf : MT := (yX6_aheadOf, cX6_aheadOf, 5, (some .int))
theorem wX6_aheadOf : MW mX6_aheadOf 1 := ⟨List.mem_of_getElem? (i := 889) (by decide +kernel), List.mem_of_getElem? (i := 56) (by decide +kernel), by decide +kernel, by decide +kernel, by decide⟩
abbrev mX6_word : MT := (yX6_word, cX6_word, 3, (some .int))
theorem wX6_word : MW mX6_word 2 := ⟨List.mem_of_getElem? (i := 893) (by decide +kernel), List.mem_of_getElem? (i := 56) (by decide +kernel), by decide +kernel, by decide +kernel, by decide⟩
abbrev mX6_wordOf : MT := (yX6_wordOf, cX6_wordOf, 3, (some .int))
theorem wX6_wordOf : MW mX6_wordOf 2 := ⟨List.mem_of_getElem? (i := 897) (by decide +kernel), List.mem_of_getElem? (i := 56) (by decide +kernel), by decide +kernel, by decide +kernel, by decide⟩
abbrev mX6_rest : MT := (yX6_rest, cX6_rest, 3, (some .int))
theorem wX6_rest : MW mX6_rest 2 := ⟨List.mem_of_getElem? (i := 901) (by decide +kernel), List.mem_of_getElem? (i := 56) (by decide +kernel), by decide +kernel, by decide +kernel, by decide⟩
abbrev mX6_restOf : MT := (yX6_restOf, cX6_restOf, 3, (some .int))
theorem wX6_restOf : MW mX6_restOf 2 := ⟨List.mem_of_getElem? (i := 906) (by decide +kernel), List.mem_of_getElem? (i := 56) (by decide +kernel), by decide +kernel, by decide +kernel, by decide⟩
abbrev mX6_mended : MT := (yX6_mended, cX6_mended, 5, (some .int))
theorem wX6_mended : MW mX6_mended 2 := ⟨List.mem_of_getElem? (i := 910) (by decide +kernel), List.mem_of_getElem? (i := 56) (by decide +kernel), by decide +kernel, by decide +kernel, by decide⟩
abbrev mX6_sureOf : MT := (yX6_sureOf, cX6_sureOf, 2, (some .int))
theorem wX6_sureOf : MW mX6_sureOf 1 := ⟨List.mem_of_getElem? (i := 914) (by decide +kernel), List.mem_of_getElem? (i := 56) (by decide +kernel), by decide +kernel, by decide +kernel, by decide⟩
abbrev mX6_distance : MT := (yX6_distance, cX6_distance, 4, (some .int))
theorem wX6_distance : MW mX6_distance 0 := ⟨List.mem_of_getElem? (i := 918) (by decide +kernel), List.mem_of_getElem? (i := 56) (by decide +kernel), by decide +kernel, by decide +kernel, by decide⟩
abbrev mX6_ones : MT := (yX6_ones, cX6_ones, 3, (some .int))
theorem wX6_ones : MW mX6_ones 1 := ⟨List.mem_of_getElem? (i := 921) (by decide +kernel), List.mem_of_getElem? (i := 56) (by decide +kernel), by decide +kernel, by decide +kernel, by decide⟩
abbrev mX6_flips : MT := (yX6_flips, cX6_flips, 8, (some .int))
theorem wX6_flips : MW mX6_flips 2 := ⟨List.mem_of_getElem? (i := 925) (by decide +kernel), List.mem_of_getElem? (i := 56) (by decide +kernel), by decide +kernel, by decide +kernel, by decide⟩
abbrev mX6_slips : MT := (yX6_slips, cX6_slips, 8, (some .int))
theorem wX6_slips : MW mX6_slips 3 := ⟨List.mem_of_getElem? (i := 930) (by decide +kernel), List.mem_of_getElem? (i := 56) (by decide +kernel), by decide +kernel, by decide +kernel, by decide⟩
abbrev mX6_bits : MT := (yX6_bits, cX6_bits, 3, (some .int))
theorem wX6_bits : MW mX6_bits 2 := ⟨List.mem_of_getElem? (i := 934) (by decide +kernel), List.mem_of_getElem? (i := 56) (by decide +kernel), by decide +kernel, by decide +kernel, by decide⟩
abbrev mX6_note : MT := (yX6_note, cX6_note, 2, none)
theorem wX6_note : MW mX6_note 0 := ⟨List.mem_of_getElem? (i := 939) (by decide +kernel), List.mem_of_getElem? (i := 56) (by decide +kernel), by decide +kernel, by decide +kernel, by decide⟩
abbrev mX6_hearBits : MT := (yX6_hearBits, cX6_hearBits, 5, none)
theorem wX6_hearBits : MW mX6_hearBits 3 := ⟨List.mem_of_getElem? (i := 943) (by decide +kernel), List.mem_of_getElem? (i := 56) (by decide +kernel), by decide +kernel, by decide +kernel, by decide⟩
abbrev mX6_hearBit : MT := (yX6_hearBit, cX6_hearBit, 3, none)
theorem wX6_hearBit : MW mX6_hearBit 2 := ⟨List.mem_of_getElem? (i := 947) (by decide +kernel), List.mem_of_getElem? (i := 56) (by decide +kernel), by decide +kernel, by decide +kernel, by decide⟩
abbrev mX6_seek : MT := (yX6_seek, cX6_seek, 6, none)
theorem wX6_seek : MW mX6_seek 1 := ⟨List.mem_of_getElem? (i := 951) (by decide +kernel), List.mem_of_getElem? (i := 56) (by decide +kernel), by decide +kernel, by decide +kernel, by decide⟩
abbrev mX6_noParts : MT := (yX6_noParts, cX6_noParts, 2, none)
theorem wX6_noParts : MW mX6_noParts 1 := ⟨List.mem_of_getElem? (i := 954) (by decide +kernel), List.mem_of_getElem? (i := 56) (by decide +kernel), by decide +kernel, by decide +kernel, by decide⟩
abbrev mX6_lookAt : MT := (yX6_lookAt, cX6_lookAt, 6, none)
theorem wX6_lookAt : MW mX6_lookAt 1 := ⟨List.mem_of_getElem? (i := 957) (by decide +kernel), List.mem_of_getElem? (i := 56) (by decide +kernel), by decide +kernel, by decide +kernel, by decide⟩
abbrev mX6_takePair : MT := (yX6_takePair, cX6_takePair, 3, none)
theorem wX6_takePair : MW mX6_takePair 3 := ⟨List.mem_of_getElem? (i := 960) (by decide +kernel), List.mem_of_getElem? (i := 56) (by decide +kernel), by decide +kernel, by decide +kernel, by decide⟩
abbrev mX6_hearOf : MT := (yX6_hearOf, cX6_hearOf, 3, none)
theorem wX6_hearOf : MW mX6_hearOf 2 := ⟨List.mem_of_getElem? (i := 963) (by decide +kernel), List.mem_of_getElem? (i := 56) (by decide +kernel), by decide +kernel, by decide +kernel, by decide⟩
abbrev mX6_takeFlag : MT := (yX6_takeFlag, cX6_takeFlag, 3, none)
theorem wX6_takeFlag : MW mX6_takeFlag 2 := ⟨List.mem_of_getElem? (i := 967) (by decide +kernel), List.mem_of_getElem? (i := 56) (by decide +kernel), by decide +kernel, by decide +kernel, by decide⟩
abbrev mX6_block : MT := (yX6_block, cX6_block, 5, none)
theorem wX6_block : MW mX6_block 1 := ⟨List.mem_of_getElem? (i := 971) (by decide +kernel), List.mem_of_getElem? (i := 56) (by decide +kernel), by decide +kernel, by decide +kernel, by decide⟩
abbrev mX6_lose : MT := (yX6_lose, cX6_lose, 1, none)
theorem wX6_lose : MW mX6_lose 1 := ⟨List.mem_of_getElem? (i := 974) (by decide +kernel), List.mem_of_getElem? (i := 56) (by decide +kernel), by decide +kernel, by decide +kernel, by decide⟩
abbrev mX6_quiet : MT := (yX6_quiet, cX6_quiet, 1, none)
theorem wX6_quiet : MW mX6_quiet 1 := ⟨List.mem_of_getElem? (i := 977) (by decide +kernel), List.mem_of_getElem? (i := 56) (by decide +kernel), by decide +kernel, by decide +kernel, by decide⟩
abbrev mX6_hear : MT := (yX6_hear, cX6_hear, 4, (some .int))
theorem wX6_hear : MW mX6_hear 3 := ⟨List.mem_of_getElem? (i := 981) (by decide +kernel), List.mem_of_getElem? (i := 56) (by decide +kernel), by decide +kernel, by decide +kernel, by decide⟩
abbrev mX6_group : MT := (yX6_group, cX6_group, 5, (some .int))
theorem wX6_group : MW mX6_group 2 := ⟨List.mem_of_getElem? (i := 985) (by decide +kernel), List.mem_of_getElem? (i := 56) (by decide +kernel), by decide +kernel, by decide +kernel, by decide⟩
abbrev mX6_hearGroup : MT := (yX6_hearGroup, cX6_hearGroup, 5, none)
theorem wX6_hearGroup : MW mX6_hearGroup 3 := ⟨List.mem_of_getElem? (i := 989) (by decide +kernel), List.mem_of_getElem? (i := 56) (by decide +kernel), by decide +kernel, by decide +kernel, by decide⟩
abbrev mX6_byteOf : MT := (yX6_byteOf, cX6_byteOf, 2, (some .int))
theorem wX6_byteOf : MW mX6_byteOf 2 := ⟨List.mem_of_getElem? (i := 992) (by decide +kernel), List.mem_of_getElem? (i := 56) (by decide +kernel), by decide +kernel, by decide +kernel, by decide⟩
abbrev mX6_reset : MT := (yX6_reset, cX6_reset, 2, (some .int))
theorem wX6_reset : MW mX6_reset 0 := ⟨List.mem_of_getElem? (i := 996) (by decide +kernel), List.mem_of_getElem? (i := 56) (by decide +kernel), by decide +kernel, by decide +kernel, by decide⟩
abbrev mX6_resetOn : MT := (yX6_resetOn, cX6_resetOn, 1, none)
theorem wX6_resetOn : MW mX6_resetOn 1 := ⟨List.mem_of_getElem? (i := 999) (by decide +kernel), List.mem_of_getElem? (i := 56) (by decide +kernel), by decide +kernel, by decide +kernel, by decide⟩
abbrev mX6_undo : MT := (yX6_undo, cX6_undo, 2, (some .int))
theorem wX6_undo : MW mX6_undo 0 := ⟨List.mem_of_getElem? (i := 1003) (by decide +kernel), List.mem_of_getElem? (i := 56) (by decide +kernel), by decide +kernel, by decide +kernel, by decide⟩
abbrev mX6_ahead : MT := (yX6_ahead, cX6_ahead, 5, (some .int))
theorem wX6_ahead : MW mX6_ahead 3 := ⟨List.mem_of_getElem? (i := 1007) (by decide +kernel), List.mem_of_getElem? (i := 56) (by decide +kernel), by decide +kernel, by decide +kernel, by decide⟩
abbrev mX6_copy : MT := (yX6_copy, cX6_copy, 3, none)
theorem wX6_copy : MW mX6_copy 2 := ⟨List.mem_of_getElem? (i := 1010) (by decide +kernel), List.mem_of_getElem? (i := 56) (by decide +kernel), by decide +kernel, by decide +kernel, by decide⟩
abbrev mX6_needs : MT := (yX6_needs, cX6_needs, 3, (some .int))
theorem wX6_needs : MW mX6_needs 1 := ⟨List.mem_of_getElem? (i := 1014) (by decide +kernel), List.mem_of_getElem? (i := 56) (by decide +kernel), by decide +kernel, by decide +kernel, by decide⟩
abbrev mX6_judge : MT := (yX6_judge, cX6_judge, 6, (some .int))
theorem wX6_judge : MW mX6_judge 2 := ⟨List.mem_of_getElem? (i := 1018) (by decide +kernel), List.mem_of_getElem? (i := 56) (by decide +kernel), by decide +kernel, by decide +kernel, by decide⟩
abbrev mX6_hundredThousands : MT := (yX6_hundredThousands, cX6_hundredThousands, 4, (some .long))
theorem wX6_hundredThousands : MW mX6_hundredThousands 1 := ⟨List.mem_of_getElem? (i := 1021) (by decide +kernel), List.mem_of_getElem? (i := 56) (by decide +kernel), by decide +kernel, by decide +kernel, by decide⟩
abbrev mX6_judged : MT := (yX6_judged, cX6_judged, 4, (some .boolean))
theorem wX6_judged : MW mX6_judged 3 := ⟨List.mem_of_getElem? (i := 1026) (by decide +kernel), List.mem_of_getElem? (i := 56) (by decide +kernel), by decide +kernel, by decide +kernel, by decide⟩
abbrev mX6_see : MT := (yX6_see, cX6_see, 4, (some .int))
theorem wX6_see : MW mX6_see 3 := ⟨List.mem_of_getElem? (i := 1030) (by decide +kernel), List.mem_of_getElem? (i := 56) (by decide +kernel), by decide +kernel, by decide +kernel, by decide⟩
abbrev mX6_unsee : MT := (yX6_unsee, cX6_unsee, 2, (some .int))
theorem wX6_unsee : MW mX6_unsee 0 := ⟨List.mem_of_getElem? (i := 1035) (by decide +kernel), List.mem_of_getElem? (i := 56) (by decide +kernel), by decide +kernel, by decide +kernel, by decide⟩
abbrev mX6_which : MT := (yX6_which, cX6_which, 6, (some .long))
theorem wX6_which : MW mX6_which 0 := ⟨List.mem_of_getElem? (i := 1039) (by decide +kernel), List.mem_of_getElem? (i := 56) (by decide +kernel), by decide +kernel, by decide +kernel, by decide⟩
abbrev mX6_isSoBy : MT := (yX6_isSoBy, cX6_isSoBy, 5, (some .boolean))
theorem wX6_isSoBy : MW mX6_isSoBy 2 := ⟨List.mem_of_getElem? (i := 1043) (by decide +kernel), List.mem_of_getElem? (i := 56) (by decide +kernel), by decide +kernel, by decide +kernel, by decide⟩
abbrev mX6_share : MT := (yX6_share, cX6_share, 7, (some .int))
theorem wX6_share : MW mX6_share 3 := ⟨List.mem_of_getElem? (i := 1047) (by decide +kernel), List.mem_of_getElem? (i := 56) (by decide +kernel), by decide +kernel, by decide +kernel, by decide⟩
abbrev mX6_factorial : MT := (yX6_factorial, cX6_factorial, 3, (some .int))
theorem wX6_factorial : MW mX6_factorial 1 := ⟨List.mem_of_getElem? (i := 1050) (by decide +kernel), List.mem_of_getElem? (i := 56) (by decide +kernel), by decide +kernel, by decide +kernel, by decide⟩
abbrev mX6_fraction : MT := (yX6_fraction, cX6_fraction, 6, (some .int))
theorem wX6_fraction : MW mX6_fraction 3 := ⟨List.mem_of_getElem? (i := 1053) (by decide +kernel), List.mem_of_getElem? (i := 56) (by decide +kernel), by decide +kernel, by decide +kernel, by decide⟩
abbrev mX6_chance : MT := (yX6_chance, cX6_chance, 8, (some .int))
theorem wX6_chance : MW mX6_chance 4 := ⟨List.mem_of_getElem? (i := 1057) (by decide +kernel), List.mem_of_getElem? (i := 56) (by decide +kernel), by decide +kernel, by decide +kernel, by decide⟩
abbrev mX6_power : MT := (yX6_power, cX6_power, 4, (some .int))
theorem wX6_power : MW mX6_power 2 := ⟨List.mem_of_getElem? (i := 1061) (by decide +kernel), List.mem_of_getElem? (i := 56) (by decide +kernel), by decide +kernel, by decide +kernel, by decide⟩
abbrev mX6_seed : MT := (yX6_seed, cX6_seed, 5, (some .long))
theorem wX6_seed : MW mX6_seed 1 := ⟨List.mem_of_getElem? (i := 1065) (by decide +kernel), List.mem_of_getElem? (i := 56) (by decide +kernel), by decide +kernel, by decide +kernel, by decide⟩
abbrev mX6_drawn : MT := (yX6_drawn, cX6_drawn, 6, (some .int))
theorem wX6_drawn : MW mX6_drawn 1 := ⟨List.mem_of_getElem? (i := 1069) (by decide +kernel), List.mem_of_getElem? (i := 56) (by decide +kernel), by decide +kernel, by decide +kernel, by decide⟩
abbrev mX6_keep : MT := (yX6_keep, cX6_keep, 3, (some .int))
theorem wX6_keep : MW mX6_keep 1 := ⟨List.mem_of_getElem? (i := 1076) (by decide +kernel), List.mem_of_getElem? (i := 56) (by decide +kernel), by decide +kernel, by decide +kernel, by decide⟩
abbrev mX6_again : MT := (yX6_again, cX6_again, 3, (some .int))
theorem wX6_again : MW mX6_again 1 := ⟨List.mem_of_getElem? (i := 1080) (by decide +kernel), List.mem_of_getElem? (i := 56) (by decide +kernel), by decide +kernel, by decide +kernel, by decide⟩
theorem kL_9 : lkI RL 9 mX5_init 0 := ⟨wX5_init, List.mem_of_getElem? (i := 61) (by decide +kernel), List.mem_of_getElem? (i := 62) (by decide +kernel), rfl, rfl⟩
theorem kX5_9 : lkX RX5 9 mX4_init 0 := ⟨wX4_init, List.mem_of_getElem? (i := 69) (by decide +kernel), List.mem_of_getElem? (i := 70) (by decide +kernel), rfl, rfl⟩
theorem kX5_18 : lkI RX5 18 mX1_init 0 := ⟨wX1_init, List.mem_of_getElem? (i := 84) (by decide +kernel), List.mem_of_getElem? (i := 85) (by decide +kernel), rfl, rfl⟩
theorem kX1_40 : lkV RX1 40 mX1_fillRows 0 1 := ⟨wX1_fillRows, List.mem_of_getElem? (i := 88) (by decide +kernel), List.mem_of_getElem? (i := 90) (by decide +kernel), List.mem_of_getElem? (i := 0) (by decide +kernel), ⟨_, _, rfl⟩, by decide⟩
theorem kX1_52 : lkS RX1 52 mJ7_fill_53178 2 := ⟨wJ7_fill_53178, List.mem_of_getElem? (i := 92) (by decide +kernel), List.mem_of_getElem? (i := 93) (by decide +kernel)⟩
theorem kX1_58 : lkV RX1 58 mX1_findBursts 0 1 := ⟨wX1_findBursts, List.mem_of_getElem? (i := 95) (by decide +kernel), List.mem_of_getElem? (i := 97) (by decide +kernel), List.mem_of_getElem? (i := 1) (by decide +kernel), ⟨_, _, rfl⟩, by decide⟩
theorem kX1_61 : lkV RX1 61 mX1_noteBurst 1 1 := ⟨wX1_noteBurst, List.mem_of_getElem? (i := 99) (by decide +kernel), List.mem_of_getElem? (i := 101) (by decide +kernel), List.mem_of_getElem? (i := 2) (by decide +kernel), ⟨_, _, rfl⟩, by decide⟩
theorem kX1_71 : lkV RX1 71 mX1_restOf 1 1 := ⟨wX1_restOf, List.mem_of_getElem? (i := 103) (by decide +kernel), List.mem_of_getElem? (i := 105) (by decide +kernel), List.mem_of_getElem? (i := 3) (by decide +kernel), ⟨_, _, rfl⟩, by decide⟩
theorem kX1_65 : lkS RX1 65 mJ9_max_7cf53 2 := ⟨wJ9_max_7cf53, List.mem_of_getElem? (i := 107) (by decide +kernel), List.mem_of_getElem? (i := 108) (by decide +kernel)⟩
theorem kX5_25 : lkI RX5 25 mX2_init 0 := ⟨wX2_init, List.mem_of_getElem? (i := 147) (by decide +kernel), List.mem_of_getElem? (i := 148) (by decide +kernel), rfl, rfl⟩
theorem kX2_11 : lkX RX2 11 mX3_init 0 := ⟨wX3_init, List.mem_of_getElem? (i := 153) (by decide +kernel), List.mem_of_getElem? (i := 154) (by decide +kernel), rfl, rfl⟩
theorem kX2_22 : lkV RX2 22 mX2_clear 0 2 := ⟨wX2_clear, List.mem_of_getElem? (i := 194) (by decide +kernel), List.mem_of_getElem? (i := 195) (by decide +kernel), List.mem_of_getElem? (i := 196) (by decide +kernel), ⟨_, _, rfl⟩, by decide⟩
theorem kX2_66 : lkS RX2 66 mJ7_fill_53178 2 := ⟨wJ7_fill_53178, List.mem_of_getElem? (i := 198) (by decide +kernel), List.mem_of_getElem? (i := 93) (by decide +kernel)⟩
theorem kX2_72 : lkV RX2 72 mX3_clear 0 3 := ⟨wX3_clear, List.mem_of_getElem? (i := 199) (by decide +kernel), List.mem_of_getElem? (i := 200) (by decide +kernel), List.mem_of_getElem? (i := 201) (by decide +kernel), ⟨_, _, rfl⟩, by decide⟩
theorem kX3_24 : lkS RX3 24 mJ7_fill_53178 2 := ⟨wJ7_fill_53178, List.mem_of_getElem? (i := 203) (by decide +kernel), List.mem_of_getElem? (i := 93) (by decide +kernel)⟩
theorem kX3_46 : lkV RX3 46 mX3_clearNames 0 3 := ⟨wX3_clearNames, List.mem_of_getElem? (i := 204) (by decide +kernel), List.mem_of_getElem? (i := 206) (by decide +kernel), List.mem_of_getElem? (i := 4) (by decide +kernel), ⟨_, _, rfl⟩, by decide⟩
theorem kX5_32 : lkI RX5 32 mX0_init 0 := ⟨wX0_init, List.mem_of_getElem? (i := 262) (by decide +kernel), List.mem_of_getElem? (i := 263) (by decide +kernel), rfl, rfl⟩
theorem kX0_24 : lkI RX0 24 mX2_init 0 := ⟨wX2_init, List.mem_of_getElem? (i := 268) (by decide +kernel), List.mem_of_getElem? (i := 148) (by decide +kernel), rfl, rfl⟩
theorem kL_13 : lkV RL 13 mX5_write 1 5 := ⟨wX5_write, List.mem_of_getElem? (i := 318) (by decide +kernel), List.mem_of_getElem? (i := 319) (by decide +kernel), List.mem_of_getElem? (i := 320) (by decide +kernel), ⟨_, _, rfl⟩, by decide⟩
theorem kX5_66 : lkV RX5 66 mX4_add 1 4 := ⟨wX4_add, List.mem_of_getElem? (i := 322) (by decide +kernel), List.mem_of_getElem? (i := 323) (by decide +kernel), List.mem_of_getElem? (i := 324) (by decide +kernel), ⟨_, _, rfl⟩, by decide⟩
theorem kL_18 : lkV RL 18 mX5_wipe 0 5 := ⟨wX5_wipe, List.mem_of_getElem? (i := 326) (by decide +kernel), List.mem_of_getElem? (i := 327) (by decide +kernel), List.mem_of_getElem? (i := 328) (by decide +kernel), ⟨_, _, rfl⟩, by decide⟩
theorem kL_23 : lkV RL 23 mX5_fault 0 5 := ⟨wX5_fault, List.mem_of_getElem? (i := 330) (by decide +kernel), List.mem_of_getElem? (i := 331) (by decide +kernel), List.mem_of_getElem? (i := 332) (by decide +kernel), ⟨_, _, rfl⟩, by decide⟩
theorem kX5_73 : lkV RX5 73 mX4_firstFault 0 4 := ⟨wX4_firstFault, List.mem_of_getElem? (i := 334) (by decide +kernel), List.mem_of_getElem? (i := 335) (by decide +kernel), List.mem_of_getElem? (i := 336) (by decide +kernel), ⟨_, _, rfl⟩, by decide⟩
theorem kX4_19 : lkS RX4 19 mJ9_min_7cf53 2 := ⟨wJ9_min_7cf53, List.mem_of_getElem? (i := 338) (by decide +kernel), List.mem_of_getElem? (i := 339) (by decide +kernel)⟩
theorem kX4_25 : lkV RX4 25 mX4_fits 1 4 := ⟨wX4_fits, List.mem_of_getElem? (i := 341) (by decide +kernel), List.mem_of_getElem? (i := 343) (by decide +kernel), List.mem_of_getElem? (i := 5) (by decide +kernel), ⟨_, _, rfl⟩, by decide⟩
theorem kX4_29 : lkV RX4 29 mX4_figureAt 1 4 := ⟨wX4_figureAt, List.mem_of_getElem? (i := 345) (by decide +kernel), List.mem_of_getElem? (i := 346) (by decide +kernel), List.mem_of_getElem? (i := 347) (by decide +kernel), ⟨_, _, rfl⟩, by decide⟩
theorem kX4_33 : lkV RX4 33 mX4_endsNumber 1 4 := ⟨wX4_endsNumber, List.mem_of_getElem? (i := 349) (by decide +kernel), List.mem_of_getElem? (i := 351) (by decide +kernel), List.mem_of_getElem? (i := 6) (by decide +kernel), ⟨_, _, rfl⟩, by decide⟩
theorem kX4_36 : lkV RX4 36 mX4_numberAt 1 4 := ⟨wX4_numberAt, List.mem_of_getElem? (i := 353) (by decide +kernel), List.mem_of_getElem? (i := 354) (by decide +kernel), List.mem_of_getElem? (i := 355) (by decide +kernel), ⟨_, _, rfl⟩, by decide⟩
theorem kL_27 : lkV RL 27 mX5_station 0 5 := ⟨wX5_station, List.mem_of_getElem? (i := 357) (by decide +kernel), List.mem_of_getElem? (i := 358) (by decide +kernel), List.mem_of_getElem? (i := 359) (by decide +kernel), ⟨_, _, rfl⟩, by decide⟩
theorem kX5_77 : lkV RX5 77 mX1_takeFrom 1 1 := ⟨wX1_takeFrom, List.mem_of_getElem? (i := 361) (by decide +kernel), List.mem_of_getElem? (i := 362) (by decide +kernel), List.mem_of_getElem? (i := 363) (by decide +kernel), ⟨_, _, rfl⟩, by decide⟩
theorem kX1_45 : lkV RX1 45 mX4_numberAt 1 4 := ⟨wX4_numberAt, List.mem_of_getElem? (i := 365) (by decide +kernel), List.mem_of_getElem? (i := 354) (by decide +kernel), List.mem_of_getElem? (i := 355) (by decide +kernel), ⟨_, _, rfl⟩, by decide⟩
theorem kX1_49 : lkV RX1 49 mX4_figureAt 1 4 := ⟨wX4_figureAt, List.mem_of_getElem? (i := 366) (by decide +kernel), List.mem_of_getElem? (i := 346) (by decide +kernel), List.mem_of_getElem? (i := 347) (by decide +kernel), ⟨_, _, rfl⟩, by decide⟩
theorem kX5_81 : lkV RX5 81 mX2_clear 0 2 := ⟨wX2_clear, List.mem_of_getElem? (i := 367) (by decide +kernel), List.mem_of_getElem? (i := 195) (by decide +kernel), List.mem_of_getElem? (i := 196) (by decide +kernel), ⟨_, _, rfl⟩, by decide⟩
theorem kX5_84 : lkV RX5 84 mX0_forget 0 0 := ⟨wX0_forget, List.mem_of_getElem? (i := 368) (by decide +kernel), List.mem_of_getElem? (i := 369) (by decide +kernel), List.mem_of_getElem? (i := 370) (by decide +kernel), ⟨_, _, rfl⟩, by decide⟩
theorem kL_31 : lkV RL 31 mX5_about 1 5 := ⟨wX5_about, List.mem_of_getElem? (i := 372) (by decide +kernel), List.mem_of_getElem? (i := 373) (by decide +kernel), List.mem_of_getElem? (i := 374) (by decide +kernel), ⟨_, _, rfl⟩, by decide⟩
theorem kX5_105 : lkV RX5 105 mX2_tell 1 2 := ⟨wX2_tell, List.mem_of_getElem? (i := 376) (by decide +kernel), List.mem_of_getElem? (i := 377) (by decide +kernel), List.mem_of_getElem? (i := 378) (by decide +kernel), ⟨_, _, rfl⟩, by decide⟩
theorem kX2_83 : lkV RX2 83 mX2_syncBit 0 2 := ⟨wX2_syncBit, List.mem_of_getElem? (i := 380) (by decide +kernel), List.mem_of_getElem? (i := 381) (by decide +kernel), List.mem_of_getElem? (i := 382) (by decide +kernel), ⟨_, _, rfl⟩, by decide⟩
theorem kL_35 : lkV RL 35 mX5_offset 1 5 := ⟨wX5_offset, List.mem_of_getElem? (i := 384) (by decide +kernel), List.mem_of_getElem? (i := 385) (by decide +kernel), List.mem_of_getElem? (i := 386) (by decide +kernel), ⟨_, _, rfl⟩, by decide⟩
theorem kX5_109 : lkS RX5 109 mX5_isOffset 1 := ⟨wX5_isOffset, List.mem_of_getElem? (i := 388) (by decide +kernel), List.mem_of_getElem? (i := 389) (by decide +kernel)⟩
theorem kL_39 : lkV RL 39 mX5_told 1 5 := ⟨wX5_told, List.mem_of_getElem? (i := 391) (by decide +kernel), List.mem_of_getElem? (i := 392) (by decide +kernel), List.mem_of_getElem? (i := 393) (by decide +kernel), ⟨_, _, rfl⟩, by decide⟩
theorem kX5_139 : lkS RX5 139 mX5_presentBits 1 := ⟨wX5_presentBits, List.mem_of_getElem? (i := 395) (by decide +kernel), List.mem_of_getElem? (i := 396) (by decide +kernel)⟩
theorem kL_43 : lkV RL 43 mX5_part 1 5 := ⟨wX5_part, List.mem_of_getElem? (i := 398) (by decide +kernel), List.mem_of_getElem? (i := 399) (by decide +kernel), List.mem_of_getElem? (i := 400) (by decide +kernel), ⟨_, _, rfl⟩, by decide⟩
theorem kL_47 : lkV RL 47 mX5_name 2 5 := ⟨wX5_name, List.mem_of_getElem? (i := 402) (by decide +kernel), List.mem_of_getElem? (i := 403) (by decide +kernel), List.mem_of_getElem? (i := 404) (by decide +kernel), ⟨_, _, rfl⟩, by decide⟩
theorem kX5_146 : lkS RX5 146 mX5_isPlace 1 := ⟨wX5_isPlace, List.mem_of_getElem? (i := 406) (by decide +kernel), List.mem_of_getElem? (i := 407) (by decide +kernel)⟩
theorem kL_52 : lkV RL 52 mX5_list 2 5 := ⟨wX5_list, List.mem_of_getElem? (i := 409) (by decide +kernel), List.mem_of_getElem? (i := 410) (by decide +kernel), List.mem_of_getElem? (i := 411) (by decide +kernel), ⟨_, _, rfl⟩, by decide⟩
theorem kX5_152 : lkV RX5 152 mX3_indexInOrder 1 3 := ⟨wX3_indexInOrder, List.mem_of_getElem? (i := 413) (by decide +kernel), List.mem_of_getElem? (i := 414) (by decide +kernel), List.mem_of_getElem? (i := 415) (by decide +kernel), ⟨_, _, rfl⟩, by decide⟩
theorem kX3_79 : lkV RX3 79 mX3_comesBefore 2 3 := ⟨wX3_comesBefore, List.mem_of_getElem? (i := 417) (by decide +kernel), List.mem_of_getElem? (i := 419) (by decide +kernel), List.mem_of_getElem? (i := 7) (by decide +kernel), ⟨_, _, rfl⟩, by decide⟩
theorem kL_56 : lkV RL 56 mX5_word 2 5 := ⟨wX5_word, List.mem_of_getElem? (i := 421) (by decide +kernel), List.mem_of_getElem? (i := 422) (by decide +kernel), List.mem_of_getElem? (i := 423) (by decide +kernel), ⟨_, _, rfl⟩, by decide⟩
theorem kX5_161 : lkS RX5 161 mX5_isByte 1 := ⟨wX5_isByte, List.mem_of_getElem? (i := 425) (by decide +kernel), List.mem_of_getElem? (i := 426) (by decide +kernel)⟩
theorem kX5_164 : lkV RX5 164 mX1_wordOf 2 1 := ⟨wX1_wordOf, List.mem_of_getElem? (i := 428) (by decide +kernel), List.mem_of_getElem? (i := 429) (by decide +kernel), List.mem_of_getElem? (i := 430) (by decide +kernel), ⟨_, _, rfl⟩, by decide⟩
theorem kX1_74 : lkV RX1 74 mX1_plainWord 1 1 := ⟨wX1_plainWord, List.mem_of_getElem? (i := 432) (by decide +kernel), List.mem_of_getElem? (i := 433) (by decide +kernel), List.mem_of_getElem? (i := 434) (by decide +kernel), ⟨_, _, rfl⟩, by decide⟩
theorem kL_61 : lkV RL 61 mX5_rest 2 5 := ⟨wX5_rest, List.mem_of_getElem? (i := 436) (by decide +kernel), List.mem_of_getElem? (i := 437) (by decide +kernel), List.mem_of_getElem? (i := 438) (by decide +kernel), ⟨_, _, rfl⟩, by decide⟩
theorem kX5_168 : lkS RX5 168 mX5_isWord 1 := ⟨wX5_isWord, List.mem_of_getElem? (i := 440) (by decide +kernel), List.mem_of_getElem? (i := 441) (by decide +kernel)⟩
theorem kX5_171 : lkV RX5 171 mX1_restFor 2 1 := ⟨wX1_restFor, List.mem_of_getElem? (i := 443) (by decide +kernel), List.mem_of_getElem? (i := 444) (by decide +kernel), List.mem_of_getElem? (i := 445) (by decide +kernel), ⟨_, _, rfl⟩, by decide⟩
theorem kL_65 : lkV RL 65 mX5_mended 2 5 := ⟨wX5_mended, List.mem_of_getElem? (i := 447) (by decide +kernel), List.mem_of_getElem? (i := 448) (by decide +kernel), List.mem_of_getElem? (i := 449) (by decide +kernel), ⟨_, _, rfl⟩, by decide⟩
theorem kX5_174 : lkV RX5 174 mX1_blockOf 2 1 := ⟨wX1_blockOf, List.mem_of_getElem? (i := 451) (by decide +kernel), List.mem_of_getElem? (i := 452) (by decide +kernel), List.mem_of_getElem? (i := 453) (by decide +kernel), ⟨_, _, rfl⟩, by decide⟩
theorem kX1_77 : lkV RX1 77 mX1_restFor 2 1 := ⟨wX1_restFor, List.mem_of_getElem? (i := 455) (by decide +kernel), List.mem_of_getElem? (i := 444) (by decide +kernel), List.mem_of_getElem? (i := 445) (by decide +kernel), ⟨_, _, rfl⟩, by decide⟩
theorem kL_69 : lkV RL 69 mX5_distance 0 5 := ⟨wX5_distance, List.mem_of_getElem? (i := 456) (by decide +kernel), List.mem_of_getElem? (i := 457) (by decide +kernel), List.mem_of_getElem? (i := 458) (by decide +kernel), ⟨_, _, rfl⟩, by decide⟩
theorem kX5_177 : lkV RX5 177 mX1_plainWord 1 1 := ⟨wX1_plainWord, List.mem_of_getElem? (i := 460) (by decide +kernel), List.mem_of_getElem? (i := 433) (by decide +kernel), List.mem_of_getElem? (i := 434) (by decide +kernel), ⟨_, _, rfl⟩, by decide⟩
theorem kX5_180 : lkS RX5 180 mJ6_bitCount_0f7a4 1 := ⟨wJ6_bitCount_0f7a4, List.mem_of_getElem? (i := 461) (by decide +kernel), List.mem_of_getElem? (i := 462) (by decide +kernel)⟩
theorem kX5_185 : lkS RX5 185 mJ9_min_7cf53 2 := ⟨wJ9_min_7cf53, List.mem_of_getElem? (i := 467) (by decide +kernel), List.mem_of_getElem? (i := 339) (by decide +kernel)⟩
theorem kL_73 : lkV RL 73 mX5_flips 2 5 := ⟨wX5_flips, List.mem_of_getElem? (i := 468) (by decide +kernel), List.mem_of_getElem? (i := 469) (by decide +kernel), List.mem_of_getElem? (i := 470) (by decide +kernel), ⟨_, _, rfl⟩, by decide⟩
theorem kX5_190 : lkS RX5 190 mX5_setsWithFate 5 := ⟨wX5_setsWithFate, List.mem_of_getElem? (i := 472) (by decide +kernel), List.mem_of_getElem? (i := 473) (by decide +kernel)⟩
theorem kX5_298 : lkV RX5 298 mX1_fateOf 1 1 := ⟨wX1_fateOf, List.mem_of_getElem? (i := 475) (by decide +kernel), List.mem_of_getElem? (i := 476) (by decide +kernel), List.mem_of_getElem? (i := 477) (by decide +kernel), ⟨_, _, rfl⟩, by decide⟩
theorem kL_77 : lkV RL 77 mX5_slips 3 5 := ⟨wX5_slips, List.mem_of_getElem? (i := 479) (by decide +kernel), List.mem_of_getElem? (i := 480) (by decide +kernel), List.mem_of_getElem? (i := 481) (by decide +kernel), ⟨_, _, rfl⟩, by decide⟩
theorem kX5_194 : lkS RX5 194 mX5_nextOffset 1 := ⟨wX5_nextOffset, List.mem_of_getElem? (i := 483) (by decide +kernel), List.mem_of_getElem? (i := 484) (by decide +kernel)⟩
theorem kX5_197 : lkV RX5 197 mX1_hitOf 1 1 := ⟨wX1_hitOf, List.mem_of_getElem? (i := 486) (by decide +kernel), List.mem_of_getElem? (i := 487) (by decide +kernel), List.mem_of_getElem? (i := 488) (by decide +kernel), ⟨_, _, rfl⟩, by decide⟩
theorem kL_82 : lkV RL 82 mX5_bits 2 5 := ⟨wX5_bits, List.mem_of_getElem? (i := 490) (by decide +kernel), List.mem_of_getElem? (i := 491) (by decide +kernel), List.mem_of_getElem? (i := 492) (by decide +kernel), ⟨_, _, rfl⟩, by decide⟩
theorem kX5_200 : lkV RX5 200 mX0_remember 1 0 := ⟨wX0_remember, List.mem_of_getElem? (i := 494) (by decide +kernel), List.mem_of_getElem? (i := 495) (by decide +kernel), List.mem_of_getElem? (i := 496) (by decide +kernel), ⟨_, _, rfl⟩, by decide⟩
theorem kX0_25 : lkV RX0 25 mX2_copyFrom 1 2 := ⟨wX2_copyFrom, List.mem_of_getElem? (i := 498) (by decide +kernel), List.mem_of_getElem? (i := 499) (by decide +kernel), List.mem_of_getElem? (i := 500) (by decide +kernel), ⟨_, _, rfl⟩, by decide⟩
theorem kX2_79 : lkV RX2 79 mX3_copyFrom 1 3 := ⟨wX3_copyFrom, List.mem_of_getElem? (i := 505) (by decide +kernel), List.mem_of_getElem? (i := 506) (by decide +kernel), List.mem_of_getElem? (i := 507) (by decide +kernel), ⟨_, _, rfl⟩, by decide⟩
theorem kX0_29 : lkS RX0 29 mJ9_min_7cf53 2 := ⟨wJ9_min_7cf53, List.mem_of_getElem? (i := 510) (by decide +kernel), List.mem_of_getElem? (i := 339) (by decide +kernel)⟩
theorem kX5_204 : lkV RX5 204 mX2_hearBits 3 2 := ⟨wX2_hearBits, List.mem_of_getElem? (i := 511) (by decide +kernel), List.mem_of_getElem? (i := 512) (by decide +kernel), List.mem_of_getElem? (i := 513) (by decide +kernel), ⟨_, _, rfl⟩, by decide⟩
theorem kX2_87 : lkV RX2 87 mX2_goOn 1 2 := ⟨wX2_goOn, List.mem_of_getElem? (i := 515) (by decide +kernel), List.mem_of_getElem? (i := 517) (by decide +kernel), List.mem_of_getElem? (i := 8) (by decide +kernel), ⟨_, _, rfl⟩, by decide⟩
theorem kX2_115 : lkV RX2 115 mX2_takeBlock 1 2 := ⟨wX2_takeBlock, List.mem_of_getElem? (i := 519) (by decide +kernel), List.mem_of_getElem? (i := 521) (by decide +kernel), List.mem_of_getElem? (i := 9) (by decide +kernel), ⟨_, _, rfl⟩, by decide⟩
theorem kX2_125 : lkV RX2 125 mX1_blockOf 2 1 := ⟨wX1_blockOf, List.mem_of_getElem? (i := 523) (by decide +kernel), List.mem_of_getElem? (i := 452) (by decide +kernel), List.mem_of_getElem? (i := 453) (by decide +kernel), ⟨_, _, rfl⟩, by decide⟩
theorem kX2_129 : lkV RX2 129 mX2_countBlock 1 2 := ⟨wX2_countBlock, List.mem_of_getElem? (i := 524) (by decide +kernel), List.mem_of_getElem? (i := 526) (by decide +kernel), List.mem_of_getElem? (i := 10) (by decide +kernel), ⟨_, _, rfl⟩, by decide⟩
theorem kX2_122 : lkV RX2 122 mX2_lose 0 2 := ⟨wX2_lose, List.mem_of_getElem? (i := 528) (by decide +kernel), List.mem_of_getElem? (i := 530) (by decide +kernel), List.mem_of_getElem? (i := 11) (by decide +kernel), ⟨_, _, rfl⟩, by decide⟩
theorem kX2_112 : lkN RX2 112 mX5_nextOffset 1 := ⟨wX5_nextOffset, List.mem_of_getElem? (i := 532) (by decide +kernel), List.mem_of_getElem? (i := 484) (by decide +kernel)⟩
theorem kX2_91 : lkV RX2 91 mX2_seekSync 1 2 := ⟨wX2_seekSync, List.mem_of_getElem? (i := 533) (by decide +kernel), List.mem_of_getElem? (i := 535) (by decide +kernel), List.mem_of_getElem? (i := 12) (by decide +kernel), ⟨_, _, rfl⟩, by decide⟩
theorem kX2_98 : lkV RX2 98 mX1_hitOf 1 1 := ⟨wX1_hitOf, List.mem_of_getElem? (i := 537) (by decide +kernel), List.mem_of_getElem? (i := 487) (by decide +kernel), List.mem_of_getElem? (i := 488) (by decide +kernel), ⟨_, _, rfl⟩, by decide⟩
theorem kX2_104 : lkV RX2 104 mX2_fitsLastHit 1 2 := ⟨wX2_fitsLastHit, List.mem_of_getElem? (i := 538) (by decide +kernel), List.mem_of_getElem? (i := 540) (by decide +kernel), List.mem_of_getElem? (i := 13) (by decide +kernel), ⟨_, _, rfl⟩, by decide⟩
theorem kX2_108 : lkV RX2 108 mX2_findSync 1 2 := ⟨wX2_findSync, List.mem_of_getElem? (i := 542) (by decide +kernel), List.mem_of_getElem? (i := 544) (by decide +kernel), List.mem_of_getElem? (i := 14) (by decide +kernel), ⟨_, _, rfl⟩, by decide⟩
theorem kX2_94 : lkV RX2 94 mX3_takeGroup 1 3 := ⟨wX3_takeGroup, List.mem_of_getElem? (i := 546) (by decide +kernel), List.mem_of_getElem? (i := 547) (by decide +kernel), List.mem_of_getElem? (i := 548) (by decide +kernel), ⟨_, _, rfl⟩, by decide⟩
theorem kX3_55 : lkV RX3 55 mX3_takeProgram 1 3 := ⟨wX3_takeProgram, List.mem_of_getElem? (i := 550) (by decide +kernel), List.mem_of_getElem? (i := 552) (by decide +kernel), List.mem_of_getElem? (i := 15) (by decide +kernel), ⟨_, _, rfl⟩, by decide⟩
theorem kX3_59 : lkV RX3 59 mX3_takePair 3 3 := ⟨wX3_takePair, List.mem_of_getElem? (i := 554) (by decide +kernel), List.mem_of_getElem? (i := 556) (by decide +kernel), List.mem_of_getElem? (i := 16) (by decide +kernel), ⟨_, _, rfl⟩, by decide⟩
theorem kX3_63 : lkV RX3 63 mX3_takeClock 2 3 := ⟨wX3_takeClock, List.mem_of_getElem? (i := 558) (by decide +kernel), List.mem_of_getElem? (i := 560) (by decide +kernel), List.mem_of_getElem? (i := 17) (by decide +kernel), ⟨_, _, rfl⟩, by decide⟩
theorem kX3_67 : lkV RX3 67 mX3_takeStation 1 3 := ⟨wX3_takeStation, List.mem_of_getElem? (i := 562) (by decide +kernel), List.mem_of_getElem? (i := 564) (by decide +kernel), List.mem_of_getElem? (i := 18) (by decide +kernel), ⟨_, _, rfl⟩, by decide⟩
theorem kX3_73 : lkS RX3 73 mJ9_min_7cf53 2 := ⟨wJ9_min_7cf53, List.mem_of_getElem? (i := 566) (by decide +kernel), List.mem_of_getElem? (i := 339) (by decide +kernel)⟩
theorem kX3_70 : lkV RX3 70 mX3_takeFlag 1 3 := ⟨wX3_takeFlag, List.mem_of_getElem? (i := 567) (by decide +kernel), List.mem_of_getElem? (i := 569) (by decide +kernel), List.mem_of_getElem? (i := 19) (by decide +kernel), ⟨_, _, rfl⟩, by decide⟩
theorem kX5_208 : lkV RX5 208 mX2_syncBit 0 2 := ⟨wX2_syncBit, List.mem_of_getElem? (i := 571) (by decide +kernel), List.mem_of_getElem? (i := 381) (by decide +kernel), List.mem_of_getElem? (i := 382) (by decide +kernel), ⟨_, _, rfl⟩, by decide⟩
theorem kL_86 : lkV RL 86 mX5_hear 3 5 := ⟨wX5_hear, List.mem_of_getElem? (i := 572) (by decide +kernel), List.mem_of_getElem? (i := 573) (by decide +kernel), List.mem_of_getElem? (i := 574) (by decide +kernel), ⟨_, _, rfl⟩, by decide⟩
theorem kL_90 : lkV RL 90 mX5_group 2 5 := ⟨wX5_group, List.mem_of_getElem? (i := 576) (by decide +kernel), List.mem_of_getElem? (i := 577) (by decide +kernel), List.mem_of_getElem? (i := 578) (by decide +kernel), ⟨_, _, rfl⟩, by decide⟩
theorem kX5_217 : lkV RX5 217 mX5_hearGroups 3 5 := ⟨wX5_hearGroups, List.mem_of_getElem? (i := 580) (by decide +kernel), List.mem_of_getElem? (i := 582) (by decide +kernel), List.mem_of_getElem? (i := 20) (by decide +kernel), ⟨_, _, rfl⟩, by decide⟩
theorem kX5_232 : lkV RX5 232 mX1_groupRow 1 1 := ⟨wX1_groupRow, List.mem_of_getElem? (i := 584) (by decide +kernel), List.mem_of_getElem? (i := 585) (by decide +kernel), List.mem_of_getElem? (i := 586) (by decide +kernel), ⟨_, _, rfl⟩, by decide⟩
theorem kX1_80 : lkV RX1 80 mX1_wordOf 2 1 := ⟨wX1_wordOf, List.mem_of_getElem? (i := 588) (by decide +kernel), List.mem_of_getElem? (i := 429) (by decide +kernel), List.mem_of_getElem? (i := 430) (by decide +kernel), ⟨_, _, rfl⟩, by decide⟩
theorem kL_94 : lkV RL 94 mX5_reset 0 5 := ⟨wX5_reset, List.mem_of_getElem? (i := 589) (by decide +kernel), List.mem_of_getElem? (i := 590) (by decide +kernel), List.mem_of_getElem? (i := 591) (by decide +kernel), ⟨_, _, rfl⟩, by decide⟩
theorem kX5_221 : lkV RX5 221 mX2_startOver 0 2 := ⟨wX2_startOver, List.mem_of_getElem? (i := 593) (by decide +kernel), List.mem_of_getElem? (i := 594) (by decide +kernel), List.mem_of_getElem? (i := 595) (by decide +kernel), ⟨_, _, rfl⟩, by decide⟩
theorem kL_98 : lkV RL 98 mX5_undo 0 5 := ⟨wX5_undo, List.mem_of_getElem? (i := 597) (by decide +kernel), List.mem_of_getElem? (i := 598) (by decide +kernel), List.mem_of_getElem? (i := 599) (by decide +kernel), ⟨_, _, rfl⟩, by decide⟩
theorem kX5_224 : lkV RX5 224 mX0_takeBack 1 0 := ⟨wX0_takeBack, List.mem_of_getElem? (i := 601) (by decide +kernel), List.mem_of_getElem? (i := 602) (by decide +kernel), List.mem_of_getElem? (i := 603) (by decide +kernel), ⟨_, _, rfl⟩, by decide⟩
theorem kL_102 : lkV RL 102 mX5_ahead 3 5 := ⟨wX5_ahead, List.mem_of_getElem? (i := 605) (by decide +kernel), List.mem_of_getElem? (i := 606) (by decide +kernel), List.mem_of_getElem? (i := 607) (by decide +kernel), ⟨_, _, rfl⟩, by decide⟩
theorem kX5_228 : lkV RX5 228 mX5_freshTrial 0 5 := ⟨wX5_freshTrial, List.mem_of_getElem? (i := 609) (by decide +kernel), List.mem_of_getElem? (i := 611) (by decide +kernel), List.mem_of_getElem? (i := 21) (by decide +kernel), ⟨_, _, rfl⟩, by decide⟩
theorem kX5_266 : lkV RX5 266 mX2_copyFrom 1 2 := ⟨wX2_copyFrom, List.mem_of_getElem? (i := 613) (by decide +kernel), List.mem_of_getElem? (i := 499) (by decide +kernel), List.mem_of_getElem? (i := 500) (by decide +kernel), ⟨_, _, rfl⟩, by decide⟩
theorem kL_106 : lkV RL 106 mX5_needs 1 5 := ⟨wX5_needs, List.mem_of_getElem? (i := 614) (by decide +kernel), List.mem_of_getElem? (i := 615) (by decide +kernel), List.mem_of_getElem? (i := 616) (by decide +kernel), ⟨_, _, rfl⟩, by decide⟩
theorem kL_112 : lkV RL 112 mX5_judge 2 5 := ⟨wX5_judge, List.mem_of_getElem? (i := 618) (by decide +kernel), List.mem_of_getElem? (i := 619) (by decide +kernel), List.mem_of_getElem? (i := 620) (by decide +kernel), ⟨_, _, rfl⟩, by decide⟩
theorem kX5_240 : lkS RX5 240 mX5_withoutLast 2 := ⟨wX5_withoutLast, List.mem_of_getElem? (i := 622) (by decide +kernel), List.mem_of_getElem? (i := 623) (by decide +kernel)⟩
theorem kX5_246 : lkV RX5 246 mX5_isSo 2 5 := ⟨wX5_isSo, List.mem_of_getElem? (i := 626) (by decide +kernel), List.mem_of_getElem? (i := 628) (by decide +kernel), List.mem_of_getElem? (i := 22) (by decide +kernel), ⟨_, _, rfl⟩, by decide⟩
theorem kX5_286 : lkV RX5 286 mX5_canHear 3 5 := ⟨wX5_canHear, List.mem_of_getElem? (i := 630) (by decide +kernel), List.mem_of_getElem? (i := 632) (by decide +kernel), List.mem_of_getElem? (i := 23) (by decide +kernel), ⟨_, _, rfl⟩, by decide⟩
theorem kX5_290 : lkS RX5 290 mX5_canReset 2 := ⟨wX5_canReset, List.mem_of_getElem? (i := 634) (by decide +kernel), List.mem_of_getElem? (i := 635) (by decide +kernel)⟩
theorem kL_117 : lkV RL 117 mX5_see 3 5 := ⟨wX5_see, List.mem_of_getElem? (i := 637) (by decide +kernel), List.mem_of_getElem? (i := 638) (by decide +kernel), List.mem_of_getElem? (i := 639) (by decide +kernel), ⟨_, _, rfl⟩, by decide⟩
theorem kL_121 : lkV RL 121 mX5_unsee 0 5 := ⟨wX5_unsee, List.mem_of_getElem? (i := 641) (by decide +kernel), List.mem_of_getElem? (i := 642) (by decide +kernel), List.mem_of_getElem? (i := 643) (by decide +kernel), ⟨_, _, rfl⟩, by decide⟩
theorem kL_125 : lkV RL 125 mX5_which 0 5 := ⟨wX5_which, List.mem_of_getElem? (i := 645) (by decide +kernel), List.mem_of_getElem? (i := 646) (by decide +kernel), List.mem_of_getElem? (i := 647) (by decide +kernel), ⟨_, _, rfl⟩, by decide⟩
theorem kX5_252 : lkV RX5 252 mX5_placesFitting 2 5 := ⟨wX5_placesFitting, List.mem_of_getElem? (i := 650) (by decide +kernel), List.mem_of_getElem? (i := 652) (by decide +kernel), List.mem_of_getElem? (i := 24) (by decide +kernel), ⟨_, _, rfl⟩, by decide⟩
theorem kX5_293 : lkV RX5 293 mX2_countOf 1 2 := ⟨wX2_countOf, List.mem_of_getElem? (i := 654) (by decide +kernel), List.mem_of_getElem? (i := 655) (by decide +kernel), List.mem_of_getElem? (i := 656) (by decide +kernel), ⟨_, _, rfl⟩, by decide⟩
theorem kL_130 : lkV RL 130 mX5_share 3 5 := ⟨wX5_share, List.mem_of_getElem? (i := 658) (by decide +kernel), List.mem_of_getElem? (i := 659) (by decide +kernel), List.mem_of_getElem? (i := 660) (by decide +kernel), ⟨_, _, rfl⟩, by decide⟩
theorem kX5_256 : lkV RX5 256 mX5_goodBehind 2 5 := ⟨wX5_goodBehind, List.mem_of_getElem? (i := 662) (by decide +kernel), List.mem_of_getElem? (i := 664) (by decide +kernel), List.mem_of_getElem? (i := 25) (by decide +kernel), ⟨_, _, rfl⟩, by decide⟩
theorem kX5_262 : lkS RX5 262 mX5_fraction 3 := ⟨wX5_fraction, List.mem_of_getElem? (i := 669) (by decide +kernel), List.mem_of_getElem? (i := 670) (by decide +kernel)⟩
theorem kX5_301 : lkS RX5 301 mJ9_abs_0f7a4 1 := ⟨wJ9_abs_0f7a4, List.mem_of_getElem? (i := 672) (by decide +kernel), List.mem_of_getElem? (i := 673) (by decide +kernel)⟩
theorem kX5_304 : lkS RX5 304 mX5_greatestDivisor 2 := ⟨wX5_greatestDivisor, List.mem_of_getElem? (i := 675) (by decide +kernel), List.mem_of_getElem? (i := 676) (by decide +kernel)⟩
theorem kL_135 : lkV RL 135 mX5_chance 4 5 := ⟨wX5_chance, List.mem_of_getElem? (i := 678) (by decide +kernel), List.mem_of_getElem? (i := 679) (by decide +kernel), List.mem_of_getElem? (i := 680) (by decide +kernel), ⟨_, _, rfl⟩, by decide⟩
theorem kX5_269 : lkS RX5 269 mX5_waysToSync 6 := ⟨wX5_waysToSync, List.mem_of_getElem? (i := 682) (by decide +kernel), List.mem_of_getElem? (i := 683) (by decide +kernel)⟩
theorem kL_140 : lkV RL 140 mX5_seed 1 5 := ⟨wX5_seed, List.mem_of_getElem? (i := 685) (by decide +kernel), List.mem_of_getElem? (i := 686) (by decide +kernel), List.mem_of_getElem? (i := 687) (by decide +kernel), ⟨_, _, rfl⟩, by decide⟩
theorem kL_145 : lkV RL 145 mX5_drawn 1 5 := ⟨wX5_drawn, List.mem_of_getElem? (i := 689) (by decide +kernel), List.mem_of_getElem? (i := 690) (by decide +kernel), List.mem_of_getElem? (i := 691) (by decide +kernel), ⟨_, _, rfl⟩, by decide⟩
theorem kX5_277 : lkV RX5 277 mX5_drawnWord 2 5 := ⟨wX5_drawnWord, List.mem_of_getElem? (i := 695) (by decide +kernel), List.mem_of_getElem? (i := 697) (by decide +kernel), List.mem_of_getElem? (i := 26) (by decide +kernel), ⟨_, _, rfl⟩, by decide⟩
theorem kL_149 : lkV RL 149 mX5_keep 1 5 := ⟨wX5_keep, List.mem_of_getElem? (i := 699) (by decide +kernel), List.mem_of_getElem? (i := 700) (by decide +kernel), List.mem_of_getElem? (i := 701) (by decide +kernel), ⟨_, _, rfl⟩, by decide⟩
theorem kX5_280 : lkS RX5 280 mX5_isSlot 1 := ⟨wX5_isSlot, List.mem_of_getElem? (i := 703) (by decide +kernel), List.mem_of_getElem? (i := 704) (by decide +kernel)⟩
theorem kL_153 : lkV RL 153 mX5_again 1 5 := ⟨wX5_again, List.mem_of_getElem? (i := 706) (by decide +kernel), List.mem_of_getElem? (i := 707) (by decide +kernel), List.mem_of_getElem? (i := 708) (by decide +kernel), ⟨_, _, rfl⟩, by decide⟩
theorem kL_12 : lkI RL 12 mX6_init 0 := ⟨wX6_init, List.mem_of_getElem? (i := 712) (by decide +kernel), List.mem_of_getElem? (i := 713) (by decide +kernel), rfl, rfl⟩
theorem kX6_60 : lkV RX6 60 mX6_layBursts 0 6 := ⟨wX6_layBursts, List.mem_of_getElem? (i := 716) (by decide +kernel), List.mem_of_getElem? (i := 718) (by decide +kernel), List.mem_of_getElem? (i := 27) (by decide +kernel), ⟨_, _, rfl⟩, by decide⟩
theorem kX6_85 : lkS RX6 85 mX6_spanOf 1 := ⟨wX6_spanOf, List.mem_of_getElem? (i := 720) (by decide +kernel), List.mem_of_getElem? (i := 721) (by decide +kernel)⟩
theorem kX6_72 : lkS RX6 72 mX6_has 2 := ⟨wX6_has, List.mem_of_getElem? (i := 723) (by decide +kernel), List.mem_of_getElem? (i := 724) (by decide +kernel)⟩
theorem kX6_89 : lkV RX6 89 mX6_left 1 6 := ⟨wX6_left, List.mem_of_getElem? (i := 726) (by decide +kernel), List.mem_of_getElem? (i := 728) (by decide +kernel), List.mem_of_getElem? (i := 28) (by decide +kernel), ⟨_, _, rfl⟩, by decide⟩
theorem kX6_63 : lkV RX6 63 mX6_fresh 0 6 := ⟨wX6_fresh, List.mem_of_getElem? (i := 730) (by decide +kernel), List.mem_of_getElem? (i := 732) (by decide +kernel), List.mem_of_getElem? (i := 29) (by decide +kernel), ⟨_, _, rfl⟩, by decide⟩
theorem kL_17 : lkV RL 17 mX6_write 1 6 := ⟨wX6_write, List.mem_of_getElem? (i := 816) (by decide +kernel), List.mem_of_getElem? (i := 817) (by decide +kernel), List.mem_of_getElem? (i := 818) (by decide +kernel), ⟨_, _, rfl⟩, by decide⟩
theorem kX6_68 : lkS RX6 68 mX6_in 3 := ⟨wX6_in, List.mem_of_getElem? (i := 821) (by decide +kernel), List.mem_of_getElem? (i := 822) (by decide +kernel)⟩
theorem kL_22 : lkV RL 22 mX6_wipe 0 6 := ⟨wX6_wipe, List.mem_of_getElem? (i := 824) (by decide +kernel), List.mem_of_getElem? (i := 825) (by decide +kernel), List.mem_of_getElem? (i := 826) (by decide +kernel), ⟨_, _, rfl⟩, by decide⟩
theorem kL_26 : lkV RL 26 mX6_fault 0 6 := ⟨wX6_fault, List.mem_of_getElem? (i := 828) (by decide +kernel), List.mem_of_getElem? (i := 829) (by decide +kernel), List.mem_of_getElem? (i := 830) (by decide +kernel), ⟨_, _, rfl⟩, by decide⟩
theorem kX6_114 : lkV RX6 114 mX6_readText 0 6 := ⟨wX6_readText, List.mem_of_getElem? (i := 832) (by decide +kernel), List.mem_of_getElem? (i := 834) (by decide +kernel), List.mem_of_getElem? (i := 30) (by decide +kernel), ⟨_, _, rfl⟩, by decide⟩
theorem kX6_111 : lkV RX6 111 mX6_take 2 6 := ⟨wX6_take, List.mem_of_getElem? (i := 836) (by decide +kernel), List.mem_of_getElem? (i := 838) (by decide +kernel), List.mem_of_getElem? (i := 31) (by decide +kernel), ⟨_, _, rfl⟩, by decide⟩
theorem kX6_102 : lkV RX6 102 mX6_isNew 2 6 := ⟨wX6_isNew, List.mem_of_getElem? (i := 841) (by decide +kernel), List.mem_of_getElem? (i := 843) (by decide +kernel), List.mem_of_getElem? (i := 32) (by decide +kernel), ⟨_, _, rfl⟩, by decide⟩
theorem kL_30 : lkV RL 30 mX6_station 0 6 := ⟨wX6_station, List.mem_of_getElem? (i := 845) (by decide +kernel), List.mem_of_getElem? (i := 846) (by decide +kernel), List.mem_of_getElem? (i := 847) (by decide +kernel), ⟨_, _, rfl⟩, by decide⟩
theorem kL_34 : lkV RL 34 mX6_about 1 6 := ⟨wX6_about, List.mem_of_getElem? (i := 849) (by decide +kernel), List.mem_of_getElem? (i := 850) (by decide +kernel), List.mem_of_getElem? (i := 851) (by decide +kernel), ⟨_, _, rfl⟩, by decide⟩
theorem kX6_179 : lkV RX6 179 mX6_tell 2 6 := ⟨wX6_tell, List.mem_of_getElem? (i := 855) (by decide +kernel), List.mem_of_getElem? (i := 857) (by decide +kernel), List.mem_of_getElem? (i := 33) (by decide +kernel), ⟨_, _, rfl⟩, by decide⟩
theorem kL_38 : lkV RL 38 mX6_offset 1 6 := ⟨wX6_offset, List.mem_of_getElem? (i := 859) (by decide +kernel), List.mem_of_getElem? (i := 860) (by decide +kernel), List.mem_of_getElem? (i := 861) (by decide +kernel), ⟨_, _, rfl⟩, by decide⟩
theorem kX6_183 : lkS RX6 183 mX6_isOffset 1 := ⟨wX6_isOffset, List.mem_of_getElem? (i := 863) (by decide +kernel), List.mem_of_getElem? (i := 864) (by decide +kernel)⟩
theorem kL_42 : lkV RL 42 mX6_told 1 6 := ⟨wX6_told, List.mem_of_getElem? (i := 866) (by decide +kernel), List.mem_of_getElem? (i := 867) (by decide +kernel), List.mem_of_getElem? (i := 868) (by decide +kernel), ⟨_, _, rfl⟩, by decide⟩
theorem kX6_187 : lkV RX6 187 mX6_thereAre 1 6 := ⟨wX6_thereAre, List.mem_of_getElem? (i := 870) (by decide +kernel), List.mem_of_getElem? (i := 872) (by decide +kernel), List.mem_of_getElem? (i := 34) (by decide +kernel), ⟨_, _, rfl⟩, by decide⟩
theorem kL_46 : lkV RL 46 mX6_part 1 6 := ⟨wX6_part, List.mem_of_getElem? (i := 874) (by decide +kernel), List.mem_of_getElem? (i := 875) (by decide +kernel), List.mem_of_getElem? (i := 876) (by decide +kernel), ⟨_, _, rfl⟩, by decide⟩
theorem kL_51 : lkV RL 51 mX6_name 2 6 := ⟨wX6_name, List.mem_of_getElem? (i := 878) (by decide +kernel), List.mem_of_getElem? (i := 879) (by decide +kernel), List.mem_of_getElem? (i := 880) (by decide +kernel), ⟨_, _, rfl⟩, by decide⟩
theorem kL_55 : lkV RL 55 mX6_list 2 6 := ⟨wX6_list, List.mem_of_getElem? (i := 882) (by decide +kernel), List.mem_of_getElem? (i := 883) (by decide +kernel), List.mem_of_getElem? (i := 884) (by decide +kernel), ⟨_, _, rfl⟩, by decide⟩
theorem kX6_190 : lkV RX6 190 mX6_aheadOf 1 6 := ⟨wX6_aheadOf, List.mem_of_getElem? (i := 886) (by decide +kernel), List.mem_of_getElem? (i := 888) (by decide +kernel), List.mem_of_getElem? (i := 35) (by decide +kernel), ⟨_, _, rfl⟩, by decide⟩
theorem kL_60 : lkV RL 60 mX6_word 2 6 := ⟨wX6_word, List.mem_of_getElem? (i := 890) (by decide +kernel), List.mem_of_getElem? (i := 891) (by decide +kernel), List.mem_of_getElem? (i := 892) (by decide +kernel), ⟨_, _, rfl⟩, by decide⟩
theorem kX6_168 : lkV RX6 168 mX6_wordOf 2 6 := ⟨wX6_wordOf, List.mem_of_getElem? (i := 894) (by decide +kernel), List.mem_of_getElem? (i := 896) (by decide +kernel), List.mem_of_getElem? (i := 36) (by decide +kernel), ⟨_, _, rfl⟩, by decide⟩
theorem kL_64 : lkV RL 64 mX6_rest 2 6 := ⟨wX6_rest, List.mem_of_getElem? (i := 898) (by decide +kernel), List.mem_of_getElem? (i := 899) (by decide +kernel), List.mem_of_getElem? (i := 900) (by decide +kernel), ⟨_, _, rfl⟩, by decide⟩
theorem kX6_146 : lkV RX6 146 mX6_restOf 2 6 := ⟨wX6_restOf, List.mem_of_getElem? (i := 903) (by decide +kernel), List.mem_of_getElem? (i := 905) (by decide +kernel), List.mem_of_getElem? (i := 37) (by decide +kernel), ⟨_, _, rfl⟩, by decide⟩
theorem kL_68 : lkV RL 68 mX6_mended 2 6 := ⟨wX6_mended, List.mem_of_getElem? (i := 907) (by decide +kernel), List.mem_of_getElem? (i := 908) (by decide +kernel), List.mem_of_getElem? (i := 909) (by decide +kernel), ⟨_, _, rfl⟩, by decide⟩
theorem kX6_150 : lkV RX6 150 mX6_sureOf 1 6 := ⟨wX6_sureOf, List.mem_of_getElem? (i := 911) (by decide +kernel), List.mem_of_getElem? (i := 913) (by decide +kernel), List.mem_of_getElem? (i := 38) (by decide +kernel), ⟨_, _, rfl⟩, by decide⟩
theorem kL_72 : lkV RL 72 mX6_distance 0 6 := ⟨wX6_distance, List.mem_of_getElem? (i := 915) (by decide +kernel), List.mem_of_getElem? (i := 916) (by decide +kernel), List.mem_of_getElem? (i := 917) (by decide +kernel), ⟨_, _, rfl⟩, by decide⟩
theorem kX6_195 : lkS RX6 195 mX6_ones 1 := ⟨wX6_ones, List.mem_of_getElem? (i := 919) (by decide +kernel), List.mem_of_getElem? (i := 920) (by decide +kernel)⟩
theorem kL_76 : lkV RL 76 mX6_flips 2 6 := ⟨wX6_flips, List.mem_of_getElem? (i := 922) (by decide +kernel), List.mem_of_getElem? (i := 923) (by decide +kernel), List.mem_of_getElem? (i := 924) (by decide +kernel), ⟨_, _, rfl⟩, by decide⟩
theorem kL_81 : lkV RL 81 mX6_slips 3 6 := ⟨wX6_slips, List.mem_of_getElem? (i := 927) (by decide +kernel), List.mem_of_getElem? (i := 928) (by decide +kernel), List.mem_of_getElem? (i := 929) (by decide +kernel), ⟨_, _, rfl⟩, by decide⟩
theorem kL_85 : lkV RL 85 mX6_bits 2 6 := ⟨wX6_bits, List.mem_of_getElem? (i := 931) (by decide +kernel), List.mem_of_getElem? (i := 932) (by decide +kernel), List.mem_of_getElem? (i := 933) (by decide +kernel), ⟨_, _, rfl⟩, by decide⟩
theorem kX6_203 : lkV RX6 203 mX6_note 0 6 := ⟨wX6_note, List.mem_of_getElem? (i := 936) (by decide +kernel), List.mem_of_getElem? (i := 938) (by decide +kernel), List.mem_of_getElem? (i := 39) (by decide +kernel), ⟨_, _, rfl⟩, by decide⟩
theorem kX6_171 : lkV RX6 171 mX6_hearBits 3 6 := ⟨wX6_hearBits, List.mem_of_getElem? (i := 940) (by decide +kernel), List.mem_of_getElem? (i := 942) (by decide +kernel), List.mem_of_getElem? (i := 40) (by decide +kernel), ⟨_, _, rfl⟩, by decide⟩
theorem kX6_162 : lkV RX6 162 mX6_hearBit 2 6 := ⟨wX6_hearBit, List.mem_of_getElem? (i := 944) (by decide +kernel), List.mem_of_getElem? (i := 946) (by decide +kernel), List.mem_of_getElem? (i := 41) (by decide +kernel), ⟨_, _, rfl⟩, by decide⟩
theorem kX6_156 : lkV RX6 156 mX6_seek 1 6 := ⟨wX6_seek, List.mem_of_getElem? (i := 948) (by decide +kernel), List.mem_of_getElem? (i := 950) (by decide +kernel), List.mem_of_getElem? (i := 42) (by decide +kernel), ⟨_, _, rfl⟩, by decide⟩
theorem kX6_125 : lkS RX6 125 mX6_noParts 1 := ⟨wX6_noParts, List.mem_of_getElem? (i := 952) (by decide +kernel), List.mem_of_getElem? (i := 953) (by decide +kernel)⟩
theorem kX6_143 : lkS RX6 143 mX6_lookAt 1 := ⟨wX6_lookAt, List.mem_of_getElem? (i := 955) (by decide +kernel), List.mem_of_getElem? (i := 956) (by decide +kernel)⟩
theorem kX6_130 : lkS RX6 130 mX6_takePair 3 := ⟨wX6_takePair, List.mem_of_getElem? (i := 958) (by decide +kernel), List.mem_of_getElem? (i := 959) (by decide +kernel)⟩
theorem kX6_134 : lkS RX6 134 mX6_hearOf 2 := ⟨wX6_hearOf, List.mem_of_getElem? (i := 961) (by decide +kernel), List.mem_of_getElem? (i := 962) (by decide +kernel)⟩
theorem kX6_138 : lkS RX6 138 mX6_takeFlag 2 := ⟨wX6_takeFlag, List.mem_of_getElem? (i := 965) (by decide +kernel), List.mem_of_getElem? (i := 966) (by decide +kernel)⟩
theorem kX6_159 : lkV RX6 159 mX6_block 1 6 := ⟨wX6_block, List.mem_of_getElem? (i := 968) (by decide +kernel), List.mem_of_getElem? (i := 970) (by decide +kernel), List.mem_of_getElem? (i := 43) (by decide +kernel), ⟨_, _, rfl⟩, by decide⟩
theorem kX6_153 : lkS RX6 153 mX6_lose 1 := ⟨wX6_lose, List.mem_of_getElem? (i := 972) (by decide +kernel), List.mem_of_getElem? (i := 973) (by decide +kernel)⟩
theorem kX6_121 : lkS RX6 121 mX6_quiet 1 := ⟨wX6_quiet, List.mem_of_getElem? (i := 975) (by decide +kernel), List.mem_of_getElem? (i := 976) (by decide +kernel)⟩
theorem kL_89 : lkV RL 89 mX6_hear 3 6 := ⟨wX6_hear, List.mem_of_getElem? (i := 978) (by decide +kernel), List.mem_of_getElem? (i := 979) (by decide +kernel), List.mem_of_getElem? (i := 980) (by decide +kernel), ⟨_, _, rfl⟩, by decide⟩
theorem kL_93 : lkV RL 93 mX6_group 2 6 := ⟨wX6_group, List.mem_of_getElem? (i := 982) (by decide +kernel), List.mem_of_getElem? (i := 983) (by decide +kernel), List.mem_of_getElem? (i := 984) (by decide +kernel), ⟨_, _, rfl⟩, by decide⟩
theorem kX6_206 : lkV RX6 206 mX6_hearGroup 3 6 := ⟨wX6_hearGroup, List.mem_of_getElem? (i := 986) (by decide +kernel), List.mem_of_getElem? (i := 988) (by decide +kernel), List.mem_of_getElem? (i := 44) (by decide +kernel), ⟨_, _, rfl⟩, by decide⟩
theorem kX6_165 : lkS RX6 165 mX6_byteOf 2 := ⟨wX6_byteOf, List.mem_of_getElem? (i := 990) (by decide +kernel), List.mem_of_getElem? (i := 991) (by decide +kernel)⟩
theorem kL_97 : lkV RL 97 mX6_reset 0 6 := ⟨wX6_reset, List.mem_of_getElem? (i := 993) (by decide +kernel), List.mem_of_getElem? (i := 994) (by decide +kernel), List.mem_of_getElem? (i := 995) (by decide +kernel), ⟨_, _, rfl⟩, by decide⟩
theorem kX6_209 : lkS RX6 209 mX6_resetOn 1 := ⟨wX6_resetOn, List.mem_of_getElem? (i := 997) (by decide +kernel), List.mem_of_getElem? (i := 998) (by decide +kernel)⟩
theorem kL_101 : lkV RL 101 mX6_undo 0 6 := ⟨wX6_undo, List.mem_of_getElem? (i := 1000) (by decide +kernel), List.mem_of_getElem? (i := 1001) (by decide +kernel), List.mem_of_getElem? (i := 1002) (by decide +kernel), ⟨_, _, rfl⟩, by decide⟩
theorem kL_105 : lkV RL 105 mX6_ahead 3 6 := ⟨wX6_ahead, List.mem_of_getElem? (i := 1004) (by decide +kernel), List.mem_of_getElem? (i := 1005) (by decide +kernel), List.mem_of_getElem? (i := 1006) (by decide +kernel), ⟨_, _, rfl⟩, by decide⟩
theorem kX6_212 : lkS RX6 212 mX6_copy 2 := ⟨wX6_copy, List.mem_of_getElem? (i := 1008) (by decide +kernel), List.mem_of_getElem? (i := 1009) (by decide +kernel)⟩
theorem kL_109 : lkV RL 109 mX6_needs 1 6 := ⟨wX6_needs, List.mem_of_getElem? (i := 1011) (by decide +kernel), List.mem_of_getElem? (i := 1012) (by decide +kernel), List.mem_of_getElem? (i := 1013) (by decide +kernel), ⟨_, _, rfl⟩, by decide⟩
theorem kL_116 : lkV RL 116 mX6_judge 2 6 := ⟨wX6_judge, List.mem_of_getElem? (i := 1015) (by decide +kernel), List.mem_of_getElem? (i := 1016) (by decide +kernel), List.mem_of_getElem? (i := 1017) (by decide +kernel), ⟨_, _, rfl⟩, by decide⟩
theorem kX6_218 : lkS RX6 218 mX6_hundredThousands 1 := ⟨wX6_hundredThousands, List.mem_of_getElem? (i := 1019) (by decide +kernel), List.mem_of_getElem? (i := 1020) (by decide +kernel)⟩
theorem kX6_222 : lkV RX6 222 mX6_judged 3 6 := ⟨wX6_judged, List.mem_of_getElem? (i := 1023) (by decide +kernel), List.mem_of_getElem? (i := 1025) (by decide +kernel), List.mem_of_getElem? (i := 45) (by decide +kernel), ⟨_, _, rfl⟩, by decide⟩
theorem kL_120 : lkV RL 120 mX6_see 3 6 := ⟨wX6_see, List.mem_of_getElem? (i := 1027) (by decide +kernel), List.mem_of_getElem? (i := 1028) (by decide +kernel), List.mem_of_getElem? (i := 1029) (by decide +kernel), ⟨_, _, rfl⟩, by decide⟩
theorem kL_124 : lkV RL 124 mX6_unsee 0 6 := ⟨wX6_unsee, List.mem_of_getElem? (i := 1032) (by decide +kernel), List.mem_of_getElem? (i := 1033) (by decide +kernel), List.mem_of_getElem? (i := 1034) (by decide +kernel), ⟨_, _, rfl⟩, by decide⟩
theorem kL_129 : lkV RL 129 mX6_which 0 6 := ⟨wX6_which, List.mem_of_getElem? (i := 1036) (by decide +kernel), List.mem_of_getElem? (i := 1037) (by decide +kernel), List.mem_of_getElem? (i := 1038) (by decide +kernel), ⟨_, _, rfl⟩, by decide⟩
theorem kX6_228 : lkV RX6 228 mX6_isSoBy 2 6 := ⟨wX6_isSoBy, List.mem_of_getElem? (i := 1040) (by decide +kernel), List.mem_of_getElem? (i := 1042) (by decide +kernel), List.mem_of_getElem? (i := 46) (by decide +kernel), ⟨_, _, rfl⟩, by decide⟩
theorem kL_134 : lkV RL 134 mX6_share 3 6 := ⟨wX6_share, List.mem_of_getElem? (i := 1044) (by decide +kernel), List.mem_of_getElem? (i := 1045) (by decide +kernel), List.mem_of_getElem? (i := 1046) (by decide +kernel), ⟨_, _, rfl⟩, by decide⟩
theorem kX6_231 : lkS RX6 231 mX6_factorial 1 := ⟨wX6_factorial, List.mem_of_getElem? (i := 1048) (by decide +kernel), List.mem_of_getElem? (i := 1049) (by decide +kernel)⟩
theorem kX6_234 : lkS RX6 234 mX6_fraction 3 := ⟨wX6_fraction, List.mem_of_getElem? (i := 1051) (by decide +kernel), List.mem_of_getElem? (i := 1052) (by decide +kernel)⟩
theorem kL_139 : lkV RL 139 mX6_chance 4 6 := ⟨wX6_chance, List.mem_of_getElem? (i := 1054) (by decide +kernel), List.mem_of_getElem? (i := 1055) (by decide +kernel), List.mem_of_getElem? (i := 1056) (by decide +kernel), ⟨_, _, rfl⟩, by decide⟩
theorem kX6_240 : lkS RX6 240 mX6_power 2 := ⟨wX6_power, List.mem_of_getElem? (i := 1059) (by decide +kernel), List.mem_of_getElem? (i := 1060) (by decide +kernel)⟩
theorem kL_144 : lkV RL 144 mX6_seed 1 6 := ⟨wX6_seed, List.mem_of_getElem? (i := 1062) (by decide +kernel), List.mem_of_getElem? (i := 1063) (by decide +kernel), List.mem_of_getElem? (i := 1064) (by decide +kernel), ⟨_, _, rfl⟩, by decide⟩
theorem kL_148 : lkV RL 148 mX6_drawn 1 6 := ⟨wX6_drawn, List.mem_of_getElem? (i := 1066) (by decide +kernel), List.mem_of_getElem? (i := 1067) (by decide +kernel), List.mem_of_getElem? (i := 1068) (by decide +kernel), ⟨_, _, rfl⟩, by decide⟩
theorem kL_152 : lkV RL 152 mX6_keep 1 6 := ⟨wX6_keep, List.mem_of_getElem? (i := 1073) (by decide +kernel), List.mem_of_getElem? (i := 1074) (by decide +kernel), List.mem_of_getElem? (i := 1075) (by decide +kernel), ⟨_, _, rfl⟩, by decide⟩
theorem kL_156 : lkV RL 156 mX6_again 1 6 := ⟨wX6_again, List.mem_of_getElem? (i := 1077) (by decide +kernel), List.mem_of_getElem? (i := 1078) (by decide +kernel), List.mem_of_getElem? (i := 1079) (by decide +kernel), ⟨_, _, rfl⟩, by decide⟩
end
section
/-! THE JUDGEMENT over places: JW .. pc lv st uc us Z I L: from the frame at pc with locals lv and stack st (references are places), the world being Z I L, the machine comes to the end that Qf names; CM: a method's contract in these words -/
def gT : List Cond := lw_tbl.filter goodWord
theorem gin {w : Cond} (h : w ∈ lw_tbl) (hg : goodWord w = true) : w ∈ gT := List.mem_filter.mpr ⟨h, hg⟩
theorem gin_ws {C : String} {T : u_T} {N : Nat} (h : ∀ w ∈ u_ws C T N, w ∈ lw_tbl) : ∀ w ∈ u_ws C T N, w ∈ gT := by
  intro w hw
  refine gin (h w hw) ?_
  obtain ⟨k, -, rfl⟩ := List.mem_map.mp hw
  unfold u_lay
  split <;> rfl
theorem gT_good : GoodIn gT gT := fun w h => ⟨h, good_of_word (List.mem_filter.mp h).2⟩
def wM (μ : MT) : List Cond := Cond.code μ.1 μ.2.1 μ.2.2.1 μ.2.2.2 :: gT
theorem wM_good {μ : MT} (h : Cond.code μ.1 μ.2.1 μ.2.2.1 μ.2.2.2 ∈ lw_tbl) : GoodIn gT (wM μ) := by
  intro w hw
  rcases List.mem_cons.mp hw with rfl | hw
  · exact ⟨gin h rfl, good_of_word rfl⟩
  · exact gT_good w hw
def rmO (d mc ms : Nat) : Room := { frames := d, cells := mc, slots := ms, locals := 64 * d }
def ordF (j : Nat) : Int32 := if j = 0 then 6 else if j = 1 then 2 else if j = 2 then 2 else 6
/-- what no cell of the world is: the static row, the script; words that are no 'good' ones -/
def pRO (g : GT) (ad : Nat → Nat) (A : Nat → Prop) (U : State) (H : Heap) : Prop :=
  va_Z RX5 "ORDERS_AFTER" "[I" (.ref (ad 1000)) A U H ∧ va_T .int (ad 1000) 4 (fun j => .int (ordF j)) A U H ∧ va_X (ad 1001) g.2.1 g.2.2 U H ∧ ad 1001 < H.size ∧ ¬ A (ad 1001)
def pNW (U : State) : Prop := va_Nw (.methodLinkNest RX5 9 yX4_init RX5) U ∧ va_Nw (.methodLinkNest RX2 11 yX3_init RX5) U ∧ va_Nw (.methodLinkNest RX2 112 yX5_nextOffset RX5) U ∧ va_AO RX2 U
theorem pNW.warm {s U : State} (hW : s.WarmedH U.vm) (h : pNW s) : pNW U := ⟨h.1.warmM hW, h.2.1.warmM hW, h.2.2.1.warmM hW, h.2.2.2.moved hW.alike⟩
theorem pNW.same {s U : State} (e : s.vm = U.vm) (h : pNW s) : pNW U := ⟨h.1.same rfl e, h.2.1.same rfl e, h.2.2.1.same rfl e, h.2.2.2.moved (by rw [← e]; exact Vm.Alike.refl _)⟩
theorem pRO.moved {g : GT} {ad : Nat → Nat} {A : Nat → Prop} {u U : State} {H : Heap} (hvm : u.vm.Alike U.vm) (h : pRO g ad A u H) : pRO g ad A U H := ⟨h.1.moved hvm, h.2.1.moved hvm, h.2.2.1.moved hvm, h.2.2.2⟩
theorem pRO.go {g : GT} {ad : Nat → Nat} {A B : Nat → Prop} {U : State} {H0 H : Heap} {locs : List Loc} (h : pRO g ad A U H0) (hS : va_S A H0 H locs) (hB : ∀ q, B q → A q) : pRO g ad B U H := by
  refine ⟨(h.1.kept (fun a h1 h2 => hS.2.1 a h1 h2)).narrow hB, (h.2.1.kept (fun a h1 h2 => hS.2.1 a h1 h2)).narrow hB, h.2.2.1.kept (hS.2.1 _ h.2.2.2.1 h.2.2.2.2), Nat.lt_of_lt_of_le h.2.2.2.1 hS.1, fun z => h.2.2.2.2 (hB _ z)⟩
theorem pRO.ad {g : GT} {ad ad' : Nat → Nat} {A : Nat → Prop} {U : State} {H : Heap} (e : ∀ a, 1000 ≤ a → ad' a = ad a) (h : pRO g ad A U H) : pRO g ad' A U H := by
  unfold pRO at h ⊢
  rw [e 1000 (by omega), e 1001 (by omega)]
  exact h
abbrev QF : Type := va_G → TC → (Nat → Prop) → (Nat → Nat) → Nat → List Frame → Array Value → State → State → Prop
abbrev PT : Type := Option Value → ZT → IT → LT → Prop
def QC (D : va_G) (tc : TC) (A : Nat → Prop) (ad0 : Nat → Nat) (n0 mc : Nat) (Post : PT) : Array Value → State → Outcome → State → Prop := fun _ st o t =>
  (∃ (r : Option Value) (Z : ZT) (I : IT) (L : LT) (ad : Nat → Nat), o = .returned (r.map (cv ad)) ∧ Post r Z I L ∧ okZ Z ∧ n0 ≤ zN Z ∧ zN Z ≤ n0 + mc ∧ (∀ a, (a < n0 ∨ zN Z ≤ a) → ad a = ad0 a) ∧ va_P D vwCl (wS tc ad Z I L) t.heap ∧ va_D A (wS tc ad Z I L)) ∧ va_F A st t
def QM (Post : PT) (mc ms : Nat) : QF := fun D tc A ad0 n0 below args s => MQ below (QC D tc A ad0 n0 mc Post) args s mc ms A
def pCX (g : GT) (μ : MT) (Rc : Room) (p : Program) (R : Room) (s : State) (m : MethodId) (args : Array Value) (meth : Method) (c : Code) (D : va_G) (tc : TC) (A : Nat → Prop) (ad0 : Nat → Nat) : Prop :=
  p.tables.exec = Jvm.exec ∧ c.code = μ.2.1 ∧ meth.sig.returnType = μ.2.2.2 ∧ c.maxLocals = μ.2.2.1 ∧ s.vm.findClass μ.1.cls = some m.cls ∧ (∀ w ∈ gT, w.before args s = true) ∧ meth.locks = false ∧ meth.name = μ.1.name ∧ R = Rc ∧ (∀ q, s.heap.size ≤ q → A q) ∧ va_K D vwCl (tyS tc) s ∧ pRO g ad0 A s s.heap ∧ pNW s
def pRL (D : va_G) (tc : TC) (A : Nat → Prop) (s : State) (nL : Nat) (ad0 : Nat → Nat) (n0 uc : Nat) (lv : List (Nat × Value)) (Z : ZT) (I : IT) (L : LT) (ad : Nat → Nat) (H : Heap) (locs : List Loc) (ls : Array Slot) : Prop :=
  va_P D vwCl (wS tc ad Z I L) H ∧ va_D A (wS tc ad Z I L) ∧ va_S A s.heap H locs ∧ lv_has ls nL (lvc ad lv) ∧ okZ Z ∧ n0 ≤ zN Z ∧ zN Z ≤ n0 + uc ∧ (∀ a, (a < n0 ∨ zN Z ≤ a) → ad a = ad0 a)
def JW (g : GT) (μ : MT) (Rc : Room) (Qf : QF) (pc : Nat) (lv : List (Nat × Value)) (st : List Value) (uc us : Nat) (Z : ZT) (I : IT) (L : LT) : Prop :=
  ∀ (p : Program) (e : Env) (R : Room) (s : State) (m : MethodId) (args : Array Value) (below : List Frame) (meth : Method) (c : Code) (D : va_G) (tc : TC) (A : Nat → Prop) (ad0 : Nat → Nat) (n0 : Nat), pCX g μ Rc p R s m args meth c D tc A ad0 →
  ∀ (ad : Nat → Nat) (H : Heap) (locs : List Loc) (ls : Array Slot), pRL D tc A s μ.2.2.1 ad0 n0 uc lv Z I L ad H locs ls → W p g.1 e R s m args below meth c H locs uc us (Qf D tc A ad0 n0 below args s) (F0 m pc ls (st.map (cv ad)))
def CM (g : GT) (d mc ms : Nat) (μ : MT) (as : List Value) (Z : ZT) (I : IT) (L : LT) (Post : PT) : Prop :=
  ∀ (D : va_G) (tc : TC) (ad : Nat → Nat) (sz : Nat), okZ Z → Met g.1 μ.1 (wM μ) (rmO d mc ms) (va_Pc (as.map (cv ad)) (fun U => U.heap.size = sz ∧ va_P D vwCl (wS tc ad Z I L) U.heap ∧ va_K D vwCl (tyS tc) U ∧ va_D (fun _ => True) (wS tc ad Z I L) ∧ pRO g ad (va_A (wS tc ad Z I L) sz) U U.heap ∧ pNW U)) (QC D tc (va_A (wS tc ad Z I L) sz) ad (zN Z) mc Post) mc ms (va_A (wS tc ad Z I L) sz)
set_option maxHeartbeats 4000000 in
theorem CM_intro {g : GT} {d mc ms : Nat} {μ : MT} {as : List Value} {Z : ZT} {I : IT} {L : LT} {Post : PT} (h : JW g μ (rmO d mc ms) (QM Post mc ms) 0 (lv_args 0 as) [] 0 0 Z I L) (hpl : plainName μ.1.cls = true := by decide) (hsl : (lg_sl as).length ≤ μ.2.2.1 := by exact Nat.le_of_ble_eq_true rfl) : CM g d mc ms μ as Z I L Post := by
  intro D tc ad sz hok
  refine Met.ofW (cc := μ.2.1) (maxL := μ.2.2.1) (ret := μ.2.2.2) hpl rfl ?_
  intro p e s m args below meth c s₁ B hml hv
  obtain ⟨rfl, hsz, hP, hK, hD0, hRO, hNW⟩ := hv
  have hts := atoms_spec (ws := wM μ) B.pre
  subst hsz
  have hl := lv_entry (as.map (cv ad)) (n := μ.2.2.1) (by rw [sl_len]; exact hsl)
  rw [lvc_args] at hl
  rw [lg_entry_eq]
  exact h p e _ s m _ below meth c D tc _ ad (zN Z) ⟨B.exec, B.bytes, B.returns, hml, findClass_of_methodNamed B.named, fun w hw => hts w (List.mem_cons_of_mem _ hw), B.notSynchronized, (name_of_methodNamed B.named B.method).1, rfl, fun q h => Or.inr h, hK, hRO, hNW⟩ ad s.heap [] _ ⟨hP, hD0.self, va_S.rf, hl, hok, Nat.le_refl _, by omega, fun a _ => rfl⟩
theorem lvc_pick (ad : Nat → Nat) (lv : List (Nat × Value)) : ∀ ks : List Nat, lv_pick (lvc ad lv) ks = lvc ad (lv_pick lv ks)
  | [] => rfl
  | i :: is => by
    have ih := lvc_pick ad lv is
    unfold lv_pick lvc at ih ⊢
    rw [List.filterMap_cons, List.filterMap_cons, List.getElem?_map]
    cases lv[i]? with
    | none => exact ih
    | some q => simp only [Option.map_some, List.map_cons, ih]
/-- weaker ends -/
theorem JW.locals {g : GT} {μ : MT} {Rc : Room} {Qf : QF} {pc : Nat} {lv lv' : List (Nat × Value)} {st : List Value} {uc us : Nat} {Z : ZT} {I : IT} {L : LT} (ks : List Nat) (hl : lv_pick lv ks = lv') (k : JW g μ Rc Qf pc lv' st uc us Z I L) : JW g μ Rc Qf pc lv st uc us Z I L := by
  intro p e R s m args below meth c D tc A ad0 n0 hC ad H locs ls hR
  refine k p e R s m args below meth c D tc A ad0 n0 hC ad H locs ls ⟨hR.1, hR.2.1, hR.2.2.1, ?_, hR.2.2.2.2⟩
  exact lv_sub hR.2.2.2.1 ks (by rw [← hl]; exact lvc_pick ad lv ks)
/-- references that a call which makes cells must leave as they are -/
def rfOK (n : Nat) (lv : List (Nat × Value)) (st : List Value) : Prop := ∀ v ∈ st ++ lv.map Prod.snd, ∀ a, v = .ref a → a < n ∨ 1000 ≤ a
theorem cv_list {ad ad' : Nat → Nat} {st : List Value} (h : ∀ v ∈ st, ∀ a, v = .ref a → ad' a = ad a) : st.map (cv ad') = st.map (cv ad) := List.map_congr_left (fun v hv => cv_cong (fun a ha => h v hv a ha))
theorem cv_lvc {ad ad' : Nat → Nat} {lv : List (Nat × Value)} (h : ∀ v ∈ lv.map Prod.snd, ∀ a, v = .ref a → ad' a = ad a) : lvc ad' lv = lvc ad lv := List.map_congr_left (fun q hq => by show (q.1, _) = (q.1, _); rw [cv_cong (fun a ha => h q.2 (List.mem_map.mpr ⟨q, hq, rfl⟩) a ha)])
set_option maxHeartbeats 4000000 in
/-- behind a call -/
theorem run_to {g : GT} {μ : MT} {Rc : Room} {Qf : QF} {pc : Nat} {lv : List (Nat × Value)} {st : List Value} {stk : List Value} {uc us mc ms : Nat} {Z : ZT} {I : IT} {L : LT} {a9 : Array Value}
    {p : Program} {e : Env} {R : Room} {s : State} {m : MethodId} {args : Array Value} {below : List Frame} {meth : Method} {c : Code} {D : va_G} {tc : TC} {A : Nat → Prop} {ad0 : Nat → Nat} {n0 : Nat} (hC : pCX g μ Rc p R s m args meth c D tc A ad0)
    {ad : Nat → Nat} {H : Heap} {locs : List Loc} {ls : Array Slot} (hR : pRL D tc A s μ.2.2.1 ad0 n0 uc lv Z I L ad H locs ls) (hrf : mc = 0 ∨ rfOK (zN Z) lv st)
    (hr : va_Run p g.1 e R s m args below meth c H locs uc us mc ms (F0 m pc ls stk) (st.map (cv ad)) (QC D tc (va_A (wS tc ad Z I L) H.size) ad (zN Z) mc (fun r Z' I' L' => JW g μ Rc Qf (pc + 3) lv (r.toList ++ st) (uc + mc) (us + ms) Z' I' L') a9) (va_A (wS tc ad Z I L) H.size)) :
    W p g.1 e R s m args below meth c H locs uc us (Qf D tc A ad0 n0 below args s) (F0 m pc ls stk) := by
  obtain ⟨hP, hD, hS, hl, hok, hn1, hn2, had⟩ := hR
  have hA := hC.2.2.2.2.2.2.2.2.2.1
  have hfr : ∀ q, va_A (wS tc ad Z I L) H.size q → A q := by
    intro q h
    rcases h with ⟨k, e', h⟩ | h
    · exact hD.2 k (q, e') h
    · exact hA q (Nat.le_trans hS.1 h)
  intro T hT X
  obtain ⟨v, st₀, t, T', L9, h0, X', hL, e1, e2, ⟨⟨r, Z', I', L', ad', ho, hp, hok', h1, h2, had', hP', hD'⟩, hz, hk⟩, go⟩ := hr T hT X
  cases ho
  rw [h0] at hz hk
  have hrefs : ∀ v ∈ st ++ lv.map Prod.snd, ∀ a, v = .ref a → ad' a = ad a := by
    intro v hv a ha
    rcases hrf with h | h
    · subst h
      exact had' a (by omega)
    · rcases h v hv a ha with h | h
      · exact had' a (Or.inl h)
      · exact had' a (Or.inr (Nat.le_of_lt (Nat.lt_of_lt_of_le hok'.2.2.2 h)))
  have es : (r.map (cv ad')).toList ++ st.map (cv ad) = (r.toList ++ st).map (cv ad') := by
    rw [List.map_append, cv_list (ad := ad) (ad' := ad') (st := st) (fun v hv => hrefs v (List.mem_append_left _ hv))]
    cases r <;> rfl
  have el : lvc ad' lv = lvc ad lv := cv_lvc (fun v hv => hrefs v (List.mem_append_right _ hv))
  have hS' : va_S A s.heap T'.heap (locs ++ L9) := ⟨Nat.le_trans hS.1 (by rw [e1]; exact hz), fun q g1 g2 => by rw [e1, hk q (Nat.lt_of_lt_of_le g1 hS.1) (fun z => g2 (hfr q z))]; exact hS.2.1 q g1 g2, fun q hq => by
      rcases List.mem_append.mp hq with h | h
      · exact hS.2.2 q h
      · exact hfr _ (hL q h)⟩
  obtain ⟨t2, a1, b1⟩ := hp p e R s m args below meth c D tc A ad0 n0 hC ad' T'.heap (locs ++ L9) ls ⟨by rw [e1]; exact hP', hD'.weaken (fun k q _ h => hfr q.1 h), hS', by rw [el]; exact hl, hok', Nat.le_trans hn1 h1, by omega, fun a ha => by
    rcases ha with ha | ha
    · rw [had' a (Or.inl (Nat.lt_of_lt_of_le ha hn1)), had a (Or.inl ha)]
    · rw [had' a (Or.inr ha), had a (Or.inr (Nat.le_trans h1 ha))]⟩ T' rfl X'
  refine ⟨t2, go t2 ?_, b1⟩
  rw [show (F0 m pc ls stk).pc = pc from rfl] at *
  simp only [es]
  exact a1
end
section
theorem j_iconst {g : GT} {μ : MT} {Rc : Room} {Qf : QF} {pc : Nat} {lv : List (Nat × Value)} {st : List Value} {uc us : Nat} {Z : ZT} {I : IT} {L : LT} {n : Int} {v : Int32} (hd : decode μ.2.1 pc = .ok (.iconst n, 1)) (hv : Int32.ofInt n = v) (k : JW g μ Rc Qf (pc + 1) lv (.int v :: st) uc us Z I L) : JW g μ Rc Qf pc lv st uc us Z I L := by
  intro p e R s m args below meth c D tc A ad0 n0 hC ad H locs ls hR
  exact lv_iconst hC.1 hC.2.1 hd hv (k p e R s m args below meth c D tc A ad0 n0 hC ad H locs ls hR)
theorem j_bipush {g : GT} {μ : MT} {Rc : Room} {Qf : QF} {pc : Nat} {lv : List (Nat × Value)} {st : List Value} {uc us : Nat} {Z : ZT} {I : IT} {L : LT} {n : Int} {v : Int32} (hd : decode μ.2.1 pc = .ok (.bipush n, 2)) (hv : (Int8.ofInt n).toInt32 = v) (k : JW g μ Rc Qf (pc + 2) lv (.int v :: st) uc us Z I L) : JW g μ Rc Qf pc lv st uc us Z I L := by
  intro p e R s m args below meth c D tc A ad0 n0 hC ad H locs ls hR
  exact lv_bipush hC.1 hC.2.1 hd hv (k p e R s m args below meth c D tc A ad0 n0 hC ad H locs ls hR)
theorem j_sipush {g : GT} {μ : MT} {Rc : Room} {Qf : QF} {pc : Nat} {lv : List (Nat × Value)} {st : List Value} {uc us : Nat} {Z : ZT} {I : IT} {L : LT} {n : Int} {v : Int32} (hd : decode μ.2.1 pc = .ok (.sipush n, 3)) (hv : (Int16.ofInt n).toInt32 = v) (k : JW g μ Rc Qf (pc + 3) lv (.int v :: st) uc us Z I L) : JW g μ Rc Qf pc lv st uc us Z I L := by
  intro p e R s m args below meth c D tc A ad0 n0 hC ad H locs ls hR
  exact lv_sipush hC.1 hC.2.1 hd hv (k p e R s m args below meth c D tc A ad0 n0 hC ad H locs ls hR)
theorem j_lconst {g : GT} {μ : MT} {Rc : Room} {Qf : QF} {pc : Nat} {lv : List (Nat × Value)} {st : List Value} {uc us : Nat} {Z : ZT} {I : IT} {L : LT} {n : Fin 2} {v : Int64} (hd : decode μ.2.1 pc = .ok (.lconst n, 1)) (hv : Int64.ofNat (n : Nat) = v) (k : JW g μ Rc Qf (pc + 1) lv (.long v :: st) uc us Z I L) : JW g μ Rc Qf pc lv st uc us Z I L := by
  intro p e R s m args below meth c D tc A ad0 n0 hC ad H locs ls hR
  exact lv_lconst hC.1 hC.2.1 hd hv (k p e R s m args below meth c D tc A ad0 n0 hC ad H locs ls hR)
theorem j_ldc {g : GT} {μ : MT} {Rc : Room} {Qf : QF} {pc : Nat} {lv : List (Nat × Value)} {st : List Value} {uc us : Nat} {Z : ZT} {I : IT} {L : LT} {idx : Nat} {v : Int32} (hd : decode μ.2.1 pc = .ok (.ldc idx, 2)) (hw : Cond.constant μ.1.cls idx v ∈ lw_tbl) (k : JW g μ Rc Qf (pc + 2) lv (.int v :: st) uc us Z I L) : JW g μ Rc Qf pc lv st uc us Z I L := by
  intro p e R s m args below meth c D tc A ad0 n0 hC ad H locs ls hR
  exact lv_ldc hC.1 hC.2.1 hC.2.2.2.2.1 (hC.2.2.2.2.2.1 _ (gin hw rfl)) hd (k p e R s m args below meth c D tc A ad0 n0 hC ad H locs ls hR)
theorem j_ldcw {g : GT} {μ : MT} {Rc : Room} {Qf : QF} {pc : Nat} {lv : List (Nat × Value)} {st : List Value} {uc us : Nat} {Z : ZT} {I : IT} {L : LT} {idx : Nat} {v : Int32} (hd : decode μ.2.1 pc = .ok (.ldc_w idx, 3)) (hw : Cond.constant μ.1.cls idx v ∈ lw_tbl) (k : JW g μ Rc Qf (pc + 3) lv (.int v :: st) uc us Z I L) : JW g μ Rc Qf pc lv st uc us Z I L := by
  intro p e R s m args below meth c D tc A ad0 n0 hC ad H locs ls hR
  exact lv_ldcw hC.1 hC.2.1 hC.2.2.2.2.1 (hC.2.2.2.2.2.1 _ (gin hw rfl)) hd (k p e R s m args below meth c D tc A ad0 n0 hC ad H locs ls hR)
theorem j_ldc2 {g : GT} {μ : MT} {Rc : Room} {Qf : QF} {pc : Nat} {lv : List (Nat × Value)} {st : List Value} {uc us : Nat} {Z : ZT} {I : IT} {L : LT} {idx : Nat} {v : Int64} (hd : decode μ.2.1 pc = .ok (.ldc2_w idx, 3)) (hw : Cond.constantLong μ.1.cls idx v ∈ lw_tbl) (k : JW g μ Rc Qf (pc + 3) lv (.long v :: st) uc us Z I L) : JW g μ Rc Qf pc lv st uc us Z I L := by
  intro p e R s m args below meth c D tc A ad0 n0 hC ad H locs ls hR
  exact lv_ldc2 hC.1 hC.2.1 hC.2.2.2.2.1 (hC.2.2.2.2.2.1 _ (gin hw rfl)) hd (k p e R s m args below meth c D tc A ad0 n0 hC ad H locs ls hR)
theorem j_iload_n {g : GT} {μ : MT} {Rc : Room} {Qf : QF} {pc : Nat} {lv : List (Nat × Value)} {st : List Value} {uc us : Nat} {Z : ZT} {I : IT} {L : LT} {n : Fin 4} {x : Int32} (j : Nat) (hd : decode μ.2.1 pc = .ok (.iload_n n, 1)) (hl : lv[j]? = some ((n : Nat), .int x)) (k : JW g μ Rc Qf (pc + 1) lv (.int x :: st) uc us Z I L) : JW g μ Rc Qf pc lv st uc us Z I L := by
  intro p e R s m args below meth c D tc A ad0 n0 hC ad H locs ls hR
  exact lv_iload_n hC.1 hC.2.1 hd rfl (lv_at hR.2.2.2.1 j (lvc_get hl)) (k p e R s m args below meth c D tc A ad0 n0 hC ad H locs ls hR)
theorem j_iload {g : GT} {μ : MT} {Rc : Room} {Qf : QF} {pc : Nat} {lv : List (Nat × Value)} {st : List Value} {uc us : Nat} {Z : ZT} {I : IT} {L : LT} {i : Nat} {x : Int32} (j : Nat) (hd : decode μ.2.1 pc = .ok (.iload i, 2)) (hl : lv[j]? = some (i, .int x)) (k : JW g μ Rc Qf (pc + 2) lv (.int x :: st) uc us Z I L) : JW g μ Rc Qf pc lv st uc us Z I L := by
  intro p e R s m args below meth c D tc A ad0 n0 hC ad H locs ls hR
  exact lv_iload hC.1 hC.2.1 hd (lv_at hR.2.2.2.1 j (lvc_get hl)) (k p e R s m args below meth c D tc A ad0 n0 hC ad H locs ls hR)
theorem j_lload_n {g : GT} {μ : MT} {Rc : Room} {Qf : QF} {pc : Nat} {lv : List (Nat × Value)} {st : List Value} {uc us : Nat} {Z : ZT} {I : IT} {L : LT} {n : Fin 4} {x : Int64} (j : Nat) (hd : decode μ.2.1 pc = .ok (.lload_n n, 1)) (hl : lv[j]? = some ((n : Nat), .long x)) (k : JW g μ Rc Qf (pc + 1) lv (.long x :: st) uc us Z I L) : JW g μ Rc Qf pc lv st uc us Z I L := by
  intro p e R s m args below meth c D tc A ad0 n0 hC ad H locs ls hR
  exact lv_lload_n hC.1 hC.2.1 hd rfl (lv_at hR.2.2.2.1 j (lvc_get hl)) (k p e R s m args below meth c D tc A ad0 n0 hC ad H locs ls hR)
theorem j_lload {g : GT} {μ : MT} {Rc : Room} {Qf : QF} {pc : Nat} {lv : List (Nat × Value)} {st : List Value} {uc us : Nat} {Z : ZT} {I : IT} {L : LT} {i : Nat} {x : Int64} (j : Nat) (hd : decode μ.2.1 pc = .ok (.lload i, 2)) (hl : lv[j]? = some (i, .long x)) (k : JW g μ Rc Qf (pc + 2) lv (.long x :: st) uc us Z I L) : JW g μ Rc Qf pc lv st uc us Z I L := by
  intro p e R s m args below meth c D tc A ad0 n0 hC ad H locs ls hR
  exact lv_lload hC.1 hC.2.1 hd (lv_at hR.2.2.2.1 j (lvc_get hl)) (k p e R s m args below meth c D tc A ad0 n0 hC ad H locs ls hR)
theorem j_aload_n {g : GT} {μ : MT} {Rc : Room} {Qf : QF} {pc : Nat} {lv : List (Nat × Value)} {st : List Value} {uc us : Nat} {Z : ZT} {I : IT} {L : LT} {n : Fin 4} {x : Nat} (j : Nat) (hd : decode μ.2.1 pc = .ok (.aload_n n, 1)) (hl : lv[j]? = some ((n : Nat), .ref x)) (k : JW g μ Rc Qf (pc + 1) lv (.ref x :: st) uc us Z I L) : JW g μ Rc Qf pc lv st uc us Z I L := by
  intro p e R s m args below meth c D tc A ad0 n0 hC ad H locs ls hR
  exact lv_aload_n hC.1 hC.2.1 hd rfl (lv_at hR.2.2.2.1 j (lvc_get hl)) (k p e R s m args below meth c D tc A ad0 n0 hC ad H locs ls hR)
theorem j_aload {g : GT} {μ : MT} {Rc : Room} {Qf : QF} {pc : Nat} {lv : List (Nat × Value)} {st : List Value} {uc us : Nat} {Z : ZT} {I : IT} {L : LT} {i : Nat} {x : Nat} (j : Nat) (hd : decode μ.2.1 pc = .ok (.aload i, 2)) (hl : lv[j]? = some (i, .ref x)) (k : JW g μ Rc Qf (pc + 2) lv (.ref x :: st) uc us Z I L) : JW g μ Rc Qf pc lv st uc us Z I L := by
  intro p e R s m args below meth c D tc A ad0 n0 hC ad H locs ls hR
  exact lv_aload hC.1 hC.2.1 hd (lv_at hR.2.2.2.1 j (lvc_get hl)) (k p e R s m args below meth c D tc A ad0 n0 hC ad H locs ls hR)
theorem j_istore_n {g : GT} {μ : MT} {Rc : Room} {Qf : QF} {pc : Nat} {lv : List (Nat × Value)} {st : List Value} {uc us : Nat} {Z : ZT} {I : IT} {L : LT} {n : Fin 4} {x : Int32} {lv' : List (Nat × Value)} (hd : decode μ.2.1 pc = .ok (.istore_n n, 1)) (hl : ((n : Nat), .int x) :: lv.filter (fun q => !(q.1 == (n : Nat)) && !(q.1 + 1 == (n : Nat) && q.2.category == 2)) = lv') (k : JW g μ Rc Qf (pc + 1) lv' st uc us Z I L) (hn : (n : Nat) < μ.2.2.1 := by decide) : JW g μ Rc Qf pc lv (.int x :: st) uc us Z I L := by
  intro p e R s m args below meth c D tc A ad0 n0 hC ad H locs ls hR
  refine lv_istore_n hC.1 hC.2.1 hd rfl hR.2.2.2.1 hn rfl (fun ls' hl' => ?_)
  have e9 : (((n : Nat), cv ad (.int x)) :: (lvc ad lv).filter (fun q => (fun a b => !(a == (n : Nat)) && !(a + 1 == (n : Nat) && b == 2)) q.1 q.2.category)) = lvc ad lv' := by rw [lvc_filter ad (fun a b => !(a == (n : Nat)) && !(a + 1 == (n : Nat) && b == 2)) lv, ← hl]; rfl
  have hl' : lv_has ls' μ.2.2.1 (lvc ad lv') := by rw [← e9]; exact hl'
  exact k p e R s m args below meth c D tc A ad0 n0 hC ad H locs ls' ⟨hR.1, hR.2.1, hR.2.2.1, hl', hR.2.2.2.2⟩
theorem j_istore {g : GT} {μ : MT} {Rc : Room} {Qf : QF} {pc : Nat} {lv : List (Nat × Value)} {st : List Value} {uc us : Nat} {Z : ZT} {I : IT} {L : LT} {i : Nat} {x : Int32} {lv' : List (Nat × Value)} (hd : decode μ.2.1 pc = .ok (.istore i, 2)) (hl : (i, .int x) :: lv.filter (fun q => !(q.1 == i) && !(q.1 + 1 == i && q.2.category == 2)) = lv') (k : JW g μ Rc Qf (pc + 2) lv' st uc us Z I L) (hn : i < μ.2.2.1 := by decide) : JW g μ Rc Qf pc lv (.int x :: st) uc us Z I L := by
  intro p e R s m args below meth c D tc A ad0 n0 hC ad H locs ls hR
  refine lv_istore hC.1 hC.2.1 hd hR.2.2.2.1 hn rfl (fun ls' hl' => ?_)
  have e9 : ((i, cv ad (.int x)) :: (lvc ad lv).filter (fun q => (fun a b => !(a == i) && !(a + 1 == i && b == 2)) q.1 q.2.category)) = lvc ad lv' := by rw [lvc_filter ad (fun a b => !(a == i) && !(a + 1 == i && b == 2)) lv, ← hl]; rfl
  have hl' : lv_has ls' μ.2.2.1 (lvc ad lv') := by rw [← e9]; exact hl'
  exact k p e R s m args below meth c D tc A ad0 n0 hC ad H locs ls' ⟨hR.1, hR.2.1, hR.2.2.1, hl', hR.2.2.2.2⟩
theorem j_lstore_n {g : GT} {μ : MT} {Rc : Room} {Qf : QF} {pc : Nat} {lv : List (Nat × Value)} {st : List Value} {uc us : Nat} {Z : ZT} {I : IT} {L : LT} {n : Fin 4} {x : Int64} {lv' : List (Nat × Value)} (hd : decode μ.2.1 pc = .ok (.lstore_n n, 1)) (hl : ((n : Nat), .long x) :: lv.filter (fun q => !(q.1 == (n : Nat)) && (!(q.1 == (n : Nat) + 1) && !(q.1 + 1 == (n : Nat) && q.2.category == 2))) = lv') (k : JW g μ Rc Qf (pc + 1) lv' st uc us Z I L) (hn : (n : Nat) + 1 < μ.2.2.1 := by decide) : JW g μ Rc Qf pc lv (.long x :: st) uc us Z I L := by
  intro p e R s m args below meth c D tc A ad0 n0 hC ad H locs ls hR
  refine lv_lstore_n hC.1 hC.2.1 hd rfl hR.2.2.2.1 hn rfl (fun ls' hl' => ?_)
  have e9 : (((n : Nat), cv ad (.long x)) :: (lvc ad lv).filter (fun q => (fun a b => !(a == (n : Nat)) && (!(a == (n : Nat) + 1) && !(a + 1 == (n : Nat) && b == 2))) q.1 q.2.category)) = lvc ad lv' := by rw [lvc_filter ad (fun a b => !(a == (n : Nat)) && (!(a == (n : Nat) + 1) && !(a + 1 == (n : Nat) && b == 2))) lv, ← hl]; rfl
  have hl' : lv_has ls' μ.2.2.1 (lvc ad lv') := by rw [← e9]; exact hl'
  exact k p e R s m args below meth c D tc A ad0 n0 hC ad H locs ls' ⟨hR.1, hR.2.1, hR.2.2.1, hl', hR.2.2.2.2⟩
theorem j_lstore {g : GT} {μ : MT} {Rc : Room} {Qf : QF} {pc : Nat} {lv : List (Nat × Value)} {st : List Value} {uc us : Nat} {Z : ZT} {I : IT} {L : LT} {i : Nat} {x : Int64} {lv' : List (Nat × Value)} (hd : decode μ.2.1 pc = .ok (.lstore i, 2)) (hl : (i, .long x) :: lv.filter (fun q => !(q.1 == i) && (!(q.1 == i + 1) && !(q.1 + 1 == i && q.2.category == 2))) = lv') (k : JW g μ Rc Qf (pc + 2) lv' st uc us Z I L) (hn : i + 1 < μ.2.2.1 := by decide) : JW g μ Rc Qf pc lv (.long x :: st) uc us Z I L := by
  intro p e R s m args below meth c D tc A ad0 n0 hC ad H locs ls hR
  refine lv_lstore hC.1 hC.2.1 hd hR.2.2.2.1 hn rfl (fun ls' hl' => ?_)
  have e9 : ((i, cv ad (.long x)) :: (lvc ad lv).filter (fun q => (fun a b => !(a == i) && (!(a == i + 1) && !(a + 1 == i && b == 2))) q.1 q.2.category)) = lvc ad lv' := by rw [lvc_filter ad (fun a b => !(a == i) && (!(a == i + 1) && !(a + 1 == i && b == 2))) lv, ← hl]; rfl
  have hl' : lv_has ls' μ.2.2.1 (lvc ad lv') := by rw [← e9]; exact hl'
  exact k p e R s m args below meth c D tc A ad0 n0 hC ad H locs ls' ⟨hR.1, hR.2.1, hR.2.2.1, hl', hR.2.2.2.2⟩
theorem j_astore_n {g : GT} {μ : MT} {Rc : Room} {Qf : QF} {pc : Nat} {lv : List (Nat × Value)} {st : List Value} {uc us : Nat} {Z : ZT} {I : IT} {L : LT} {n : Fin 4} {x : Nat} {lv' : List (Nat × Value)} (hd : decode μ.2.1 pc = .ok (.astore_n n, 1)) (hl : ((n : Nat), .ref x) :: lv.filter (fun q => !(q.1 == (n : Nat)) && !(q.1 + 1 == (n : Nat) && q.2.category == 2)) = lv') (k : JW g μ Rc Qf (pc + 1) lv' st uc us Z I L) (hn : (n : Nat) < μ.2.2.1 := by decide) : JW g μ Rc Qf pc lv (.ref x :: st) uc us Z I L := by
  intro p e R s m args below meth c D tc A ad0 n0 hC ad H locs ls hR
  refine lv_astore_n hC.1 hC.2.1 hd rfl hR.2.2.2.1 hn rfl (fun ls' hl' => ?_)
  have e9 : (((n : Nat), cv ad (.ref x)) :: (lvc ad lv).filter (fun q => (fun a b => !(a == (n : Nat)) && !(a + 1 == (n : Nat) && b == 2)) q.1 q.2.category)) = lvc ad lv' := by rw [lvc_filter ad (fun a b => !(a == (n : Nat)) && !(a + 1 == (n : Nat) && b == 2)) lv, ← hl]; rfl
  have hl' : lv_has ls' μ.2.2.1 (lvc ad lv') := by rw [← e9]; exact hl'
  exact k p e R s m args below meth c D tc A ad0 n0 hC ad H locs ls' ⟨hR.1, hR.2.1, hR.2.2.1, hl', hR.2.2.2.2⟩
theorem j_astore {g : GT} {μ : MT} {Rc : Room} {Qf : QF} {pc : Nat} {lv : List (Nat × Value)} {st : List Value} {uc us : Nat} {Z : ZT} {I : IT} {L : LT} {i : Nat} {x : Nat} {lv' : List (Nat × Value)} (hd : decode μ.2.1 pc = .ok (.astore i, 2)) (hl : (i, .ref x) :: lv.filter (fun q => !(q.1 == i) && !(q.1 + 1 == i && q.2.category == 2)) = lv') (k : JW g μ Rc Qf (pc + 2) lv' st uc us Z I L) (hn : i < μ.2.2.1 := by decide) : JW g μ Rc Qf pc lv (.ref x :: st) uc us Z I L := by
  intro p e R s m args below meth c D tc A ad0 n0 hC ad H locs ls hR
  refine lv_astore hC.1 hC.2.1 hd hR.2.2.2.1 hn rfl (fun ls' hl' => ?_)
  have e9 : ((i, cv ad (.ref x)) :: (lvc ad lv).filter (fun q => (fun a b => !(a == i) && !(a + 1 == i && b == 2)) q.1 q.2.category)) = lvc ad lv' := by rw [lvc_filter ad (fun a b => !(a == i) && !(a + 1 == i && b == 2)) lv, ← hl]; rfl
  have hl' : lv_has ls' μ.2.2.1 (lvc ad lv') := by rw [← e9]; exact hl'
  exact k p e R s m args below meth c D tc A ad0 n0 hC ad H locs ls' ⟨hR.1, hR.2.1, hR.2.2.1, hl', hR.2.2.2.2⟩
theorem j_iinc {g : GT} {μ : MT} {Rc : Room} {Qf : QF} {pc : Nat} {lv : List (Nat × Value)} {st : List Value} {uc us : Nat} {Z : ZT} {I : IT} {L : LT} {i : Nat} {n : Int} {x y : Int32} {lv' : List (Nat × Value)} (j : Nat) (hd : decode μ.2.1 pc = .ok (.iinc i n, 3)) (hj : lv[j]? = some (i, .int x)) (hv : Int32.ofInt n = y) (hl : (i, .int (x + y)) :: lv.filter (fun q => !(q.1 == i) && !(q.1 + 1 == i && q.2.category == 2)) = lv') (k : JW g μ Rc Qf (pc + 3) lv' st uc us Z I L) (hn : i < μ.2.2.1 := by decide) : JW g μ Rc Qf pc lv st uc us Z I L := by
  intro p e R s m args below meth c D tc A ad0 n0 hC ad H locs ls hR
  refine lv_iinc (v := x + y) hC.1 hC.2.1 hd hR.2.2.2.1 (k := j) (lvc_get hj) (by rw [hv]) hn rfl (fun ls' hl' => ?_)
  have e9 : ((i, cv ad (.int (x + y))) :: (lvc ad lv).filter (fun q => (fun a b => !(a == i) && !(a + 1 == i && b == 2)) q.1 q.2.category)) = lvc ad lv' := by rw [lvc_filter ad (fun a b => !(a == i) && !(a + 1 == i && b == 2)) lv, ← hl]; rfl
  have hl' : lv_has ls' μ.2.2.1 (lvc ad lv') := by rw [← e9]; exact hl'
  exact k p e R s m args below meth c D tc A ad0 n0 hC ad H locs ls' ⟨hR.1, hR.2.1, hR.2.2.1, hl', hR.2.2.2.2⟩
theorem j_iadd {g : GT} {μ : MT} {Rc : Room} {Qf : QF} {pc : Nat} {lv : List (Nat × Value)} {st : List Value} {uc us : Nat} {Z : ZT} {I : IT} {L : LT} {x y : Int32} (hd : decode μ.2.1 pc = .ok (.iadd, 1)) (k : JW g μ Rc Qf (pc + 1) lv (.int (x + y) :: st) uc us Z I L) : JW g μ Rc Qf pc lv (.int y :: .int x :: st) uc us Z I L := by
  intro p e R s m args below meth c D tc A ad0 n0 hC ad H locs ls hR
  exact lv_iadd hC.1 hC.2.1 hd (k p e R s m args below meth c D tc A ad0 n0 hC ad H locs ls hR)
theorem j_isub {g : GT} {μ : MT} {Rc : Room} {Qf : QF} {pc : Nat} {lv : List (Nat × Value)} {st : List Value} {uc us : Nat} {Z : ZT} {I : IT} {L : LT} {x y : Int32} (hd : decode μ.2.1 pc = .ok (.isub, 1)) (k : JW g μ Rc Qf (pc + 1) lv (.int (x - y) :: st) uc us Z I L) : JW g μ Rc Qf pc lv (.int y :: .int x :: st) uc us Z I L := by
  intro p e R s m args below meth c D tc A ad0 n0 hC ad H locs ls hR
  exact lv_isub hC.1 hC.2.1 hd (k p e R s m args below meth c D tc A ad0 n0 hC ad H locs ls hR)
theorem j_imul {g : GT} {μ : MT} {Rc : Room} {Qf : QF} {pc : Nat} {lv : List (Nat × Value)} {st : List Value} {uc us : Nat} {Z : ZT} {I : IT} {L : LT} {x y : Int32} (hd : decode μ.2.1 pc = .ok (.imul, 1)) (k : JW g μ Rc Qf (pc + 1) lv (.int (x * y) :: st) uc us Z I L) : JW g μ Rc Qf pc lv (.int y :: .int x :: st) uc us Z I L := by
  intro p e R s m args below meth c D tc A ad0 n0 hC ad H locs ls hR
  exact lv_imul hC.1 hC.2.1 hd (k p e R s m args below meth c D tc A ad0 n0 hC ad H locs ls hR)
theorem j_iand {g : GT} {μ : MT} {Rc : Room} {Qf : QF} {pc : Nat} {lv : List (Nat × Value)} {st : List Value} {uc us : Nat} {Z : ZT} {I : IT} {L : LT} {x y : Int32} (hd : decode μ.2.1 pc = .ok (.iand, 1)) (k : JW g μ Rc Qf (pc + 1) lv (.int (x &&& y) :: st) uc us Z I L) : JW g μ Rc Qf pc lv (.int y :: .int x :: st) uc us Z I L := by
  intro p e R s m args below meth c D tc A ad0 n0 hC ad H locs ls hR
  exact lv_iand hC.1 hC.2.1 hd (k p e R s m args below meth c D tc A ad0 n0 hC ad H locs ls hR)
theorem j_ior {g : GT} {μ : MT} {Rc : Room} {Qf : QF} {pc : Nat} {lv : List (Nat × Value)} {st : List Value} {uc us : Nat} {Z : ZT} {I : IT} {L : LT} {x y : Int32} (hd : decode μ.2.1 pc = .ok (.ior, 1)) (k : JW g μ Rc Qf (pc + 1) lv (.int (x ||| y) :: st) uc us Z I L) : JW g μ Rc Qf pc lv (.int y :: .int x :: st) uc us Z I L := by
  intro p e R s m args below meth c D tc A ad0 n0 hC ad H locs ls hR
  exact lv_ior hC.1 hC.2.1 hd (k p e R s m args below meth c D tc A ad0 n0 hC ad H locs ls hR)
theorem j_ixor {g : GT} {μ : MT} {Rc : Room} {Qf : QF} {pc : Nat} {lv : List (Nat × Value)} {st : List Value} {uc us : Nat} {Z : ZT} {I : IT} {L : LT} {x y : Int32} (hd : decode μ.2.1 pc = .ok (.ixor, 1)) (k : JW g μ Rc Qf (pc + 1) lv (.int (x ^^^ y) :: st) uc us Z I L) : JW g μ Rc Qf pc lv (.int y :: .int x :: st) uc us Z I L := by
  intro p e R s m args below meth c D tc A ad0 n0 hC ad H locs ls hR
  exact lv_ixor hC.1 hC.2.1 hd (k p e R s m args below meth c D tc A ad0 n0 hC ad H locs ls hR)
theorem j_ishl {g : GT} {μ : MT} {Rc : Room} {Qf : QF} {pc : Nat} {lv : List (Nat × Value)} {st : List Value} {uc us : Nat} {Z : ZT} {I : IT} {L : LT} {x y : Int32} (hd : decode μ.2.1 pc = .ok (.ishl, 1)) (k : JW g μ Rc Qf (pc + 1) lv (.int (x <<< (y &&& 31)) :: st) uc us Z I L) : JW g μ Rc Qf pc lv (.int y :: .int x :: st) uc us Z I L := by
  intro p e R s m args below meth c D tc A ad0 n0 hC ad H locs ls hR
  exact lv_ishl hC.1 hC.2.1 hd (k p e R s m args below meth c D tc A ad0 n0 hC ad H locs ls hR)
theorem j_ishr {g : GT} {μ : MT} {Rc : Room} {Qf : QF} {pc : Nat} {lv : List (Nat × Value)} {st : List Value} {uc us : Nat} {Z : ZT} {I : IT} {L : LT} {x y : Int32} (hd : decode μ.2.1 pc = .ok (.ishr, 1)) (k : JW g μ Rc Qf (pc + 1) lv (.int (x >>> (y &&& 31)) :: st) uc us Z I L) : JW g μ Rc Qf pc lv (.int y :: .int x :: st) uc us Z I L := by
  intro p e R s m args below meth c D tc A ad0 n0 hC ad H locs ls hR
  exact lv_ishr hC.1 hC.2.1 hd (k p e R s m args below meth c D tc A ad0 n0 hC ad H locs ls hR)
theorem j_iushr {g : GT} {μ : MT} {Rc : Room} {Qf : QF} {pc : Nat} {lv : List (Nat × Value)} {st : List Value} {uc us : Nat} {Z : ZT} {I : IT} {L : LT} {x y : Int32} (hd : decode μ.2.1 pc = .ok (.iushr, 1)) (k : JW g μ Rc Qf (pc + 1) lv (.int ((x.toUInt32 >>> (y.toUInt32 &&& Int32.toUInt32 31)).toInt32) :: st) uc us Z I L) : JW g μ Rc Qf pc lv (.int y :: .int x :: st) uc us Z I L := by
  intro p e R s m args below meth c D tc A ad0 n0 hC ad H locs ls hR
  exact lv_iushr hC.1 hC.2.1 hd rfl (k p e R s m args below meth c D tc A ad0 n0 hC ad H locs ls hR)
theorem j_idiv {g : GT} {μ : MT} {Rc : Room} {Qf : QF} {pc : Nat} {lv : List (Nat × Value)} {st : List Value} {uc us : Nat} {Z : ZT} {I : IT} {L : LT} {x y : Int32} (hd : decode μ.2.1 pc = .ok (.idiv, 1)) (hne : ¬ y = 0) (k : JW g μ Rc Qf (pc + 1) lv (.int (x / y) :: st) uc us Z I L) : JW g μ Rc Qf pc lv (.int y :: .int x :: st) uc us Z I L := by
  intro p e R s m args below meth c D tc A ad0 n0 hC ad H locs ls hR
  exact lv_idiv hC.1 hC.2.1 hd hne (k p e R s m args below meth c D tc A ad0 n0 hC ad H locs ls hR)
theorem j_irem {g : GT} {μ : MT} {Rc : Room} {Qf : QF} {pc : Nat} {lv : List (Nat × Value)} {st : List Value} {uc us : Nat} {Z : ZT} {I : IT} {L : LT} {x y : Int32} (hd : decode μ.2.1 pc = .ok (.irem, 1)) (hne : ¬ y = 0) (k : JW g μ Rc Qf (pc + 1) lv (.int (x - x / y * y) :: st) uc us Z I L) : JW g μ Rc Qf pc lv (.int y :: .int x :: st) uc us Z I L := by
  intro p e R s m args below meth c D tc A ad0 n0 hC ad H locs ls hR
  exact lv_irem hC.1 hC.2.1 hd hne (k p e R s m args below meth c D tc A ad0 n0 hC ad H locs ls hR)
theorem j_ineg {g : GT} {μ : MT} {Rc : Room} {Qf : QF} {pc : Nat} {lv : List (Nat × Value)} {st : List Value} {uc us : Nat} {Z : ZT} {I : IT} {L : LT} {x : Int32} (hd : decode μ.2.1 pc = .ok (.ineg, 1)) (k : JW g μ Rc Qf (pc + 1) lv (.int (-x) :: st) uc us Z I L) : JW g μ Rc Qf pc lv (.int x :: st) uc us Z I L := by
  intro p e R s m args below meth c D tc A ad0 n0 hC ad H locs ls hR
  exact lv_ineg hC.1 hC.2.1 hd (k p e R s m args below meth c D tc A ad0 n0 hC ad H locs ls hR)
theorem j_ladd {g : GT} {μ : MT} {Rc : Room} {Qf : QF} {pc : Nat} {lv : List (Nat × Value)} {st : List Value} {uc us : Nat} {Z : ZT} {I : IT} {L : LT} {x y : Int64} (hd : decode μ.2.1 pc = .ok (.ladd, 1)) (k : JW g μ Rc Qf (pc + 1) lv (.long (x + y) :: st) uc us Z I L) : JW g μ Rc Qf pc lv (.long y :: .long x :: st) uc us Z I L := by
  intro p e R s m args below meth c D tc A ad0 n0 hC ad H locs ls hR
  exact lv_ladd hC.1 hC.2.1 hd (k p e R s m args below meth c D tc A ad0 n0 hC ad H locs ls hR)
theorem j_lsub {g : GT} {μ : MT} {Rc : Room} {Qf : QF} {pc : Nat} {lv : List (Nat × Value)} {st : List Value} {uc us : Nat} {Z : ZT} {I : IT} {L : LT} {x y : Int64} (hd : decode μ.2.1 pc = .ok (.lsub, 1)) (k : JW g μ Rc Qf (pc + 1) lv (.long (x - y) :: st) uc us Z I L) : JW g μ Rc Qf pc lv (.long y :: .long x :: st) uc us Z I L := by
  intro p e R s m args below meth c D tc A ad0 n0 hC ad H locs ls hR
  exact lv_lsub hC.1 hC.2.1 hd (k p e R s m args below meth c D tc A ad0 n0 hC ad H locs ls hR)
theorem j_lmul {g : GT} {μ : MT} {Rc : Room} {Qf : QF} {pc : Nat} {lv : List (Nat × Value)} {st : List Value} {uc us : Nat} {Z : ZT} {I : IT} {L : LT} {x y : Int64} (hd : decode μ.2.1 pc = .ok (.lmul, 1)) (k : JW g μ Rc Qf (pc + 1) lv (.long (x * y) :: st) uc us Z I L) : JW g μ Rc Qf pc lv (.long y :: .long x :: st) uc us Z I L := by
  intro p e R s m args below meth c D tc A ad0 n0 hC ad H locs ls hR
  exact lv_lmul hC.1 hC.2.1 hd (k p e R s m args below meth c D tc A ad0 n0 hC ad H locs ls hR)
theorem j_land {g : GT} {μ : MT} {Rc : Room} {Qf : QF} {pc : Nat} {lv : List (Nat × Value)} {st : List Value} {uc us : Nat} {Z : ZT} {I : IT} {L : LT} {x y : Int64} (hd : decode μ.2.1 pc = .ok (.land, 1)) (k : JW g μ Rc Qf (pc + 1) lv (.long (x &&& y) :: st) uc us Z I L) : JW g μ Rc Qf pc lv (.long y :: .long x :: st) uc us Z I L := by
  intro p e R s m args below meth c D tc A ad0 n0 hC ad H locs ls hR
  exact lv_land hC.1 hC.2.1 hd (k p e R s m args below meth c D tc A ad0 n0 hC ad H locs ls hR)
theorem j_lor {g : GT} {μ : MT} {Rc : Room} {Qf : QF} {pc : Nat} {lv : List (Nat × Value)} {st : List Value} {uc us : Nat} {Z : ZT} {I : IT} {L : LT} {x y : Int64} (hd : decode μ.2.1 pc = .ok (.lor, 1)) (k : JW g μ Rc Qf (pc + 1) lv (.long (x ||| y) :: st) uc us Z I L) : JW g μ Rc Qf pc lv (.long y :: .long x :: st) uc us Z I L := by
  intro p e R s m args below meth c D tc A ad0 n0 hC ad H locs ls hR
  exact lv_lor hC.1 hC.2.1 hd (k p e R s m args below meth c D tc A ad0 n0 hC ad H locs ls hR)
theorem j_lxor {g : GT} {μ : MT} {Rc : Room} {Qf : QF} {pc : Nat} {lv : List (Nat × Value)} {st : List Value} {uc us : Nat} {Z : ZT} {I : IT} {L : LT} {x y : Int64} (hd : decode μ.2.1 pc = .ok (.lxor, 1)) (k : JW g μ Rc Qf (pc + 1) lv (.long (x ^^^ y) :: st) uc us Z I L) : JW g μ Rc Qf pc lv (.long y :: .long x :: st) uc us Z I L := by
  intro p e R s m args below meth c D tc A ad0 n0 hC ad H locs ls hR
  exact lv_lxor hC.1 hC.2.1 hd (k p e R s m args below meth c D tc A ad0 n0 hC ad H locs ls hR)
theorem j_ldiv {g : GT} {μ : MT} {Rc : Room} {Qf : QF} {pc : Nat} {lv : List (Nat × Value)} {st : List Value} {uc us : Nat} {Z : ZT} {I : IT} {L : LT} {x y : Int64} (hd : decode μ.2.1 pc = .ok (.ldiv, 1)) (hne : ¬ y = 0) (k : JW g μ Rc Qf (pc + 1) lv (.long (x / y) :: st) uc us Z I L) : JW g μ Rc Qf pc lv (.long y :: .long x :: st) uc us Z I L := by
  intro p e R s m args below meth c D tc A ad0 n0 hC ad H locs ls hR
  exact lv_ldiv hC.1 hC.2.1 hd hne (k p e R s m args below meth c D tc A ad0 n0 hC ad H locs ls hR)
theorem j_lrem {g : GT} {μ : MT} {Rc : Room} {Qf : QF} {pc : Nat} {lv : List (Nat × Value)} {st : List Value} {uc us : Nat} {Z : ZT} {I : IT} {L : LT} {x y : Int64} (hd : decode μ.2.1 pc = .ok (.lrem, 1)) (hne : ¬ y = 0) (k : JW g μ Rc Qf (pc + 1) lv (.long (x - x / y * y) :: st) uc us Z I L) : JW g μ Rc Qf pc lv (.long y :: .long x :: st) uc us Z I L := by
  intro p e R s m args below meth c D tc A ad0 n0 hC ad H locs ls hR
  exact lv_lrem hC.1 hC.2.1 hd hne (k p e R s m args below meth c D tc A ad0 n0 hC ad H locs ls hR)
theorem j_lcmp {g : GT} {μ : MT} {Rc : Room} {Qf : QF} {pc : Nat} {lv : List (Nat × Value)} {st : List Value} {uc us : Nat} {Z : ZT} {I : IT} {L : LT} {x y : Int64} (hd : decode μ.2.1 pc = .ok (.lcmp, 1)) (k : JW g μ Rc Qf (pc + 1) lv (.int (lg_cmp x y) :: st) uc us Z I L) : JW g μ Rc Qf pc lv (.long y :: .long x :: st) uc us Z I L := by
  intro p e R s m args below meth c D tc A ad0 n0 hC ad H locs ls hR
  exact W.lcmp hC.1 hC.2.1 hd (k p e R s m args below meth c D tc A ad0 n0 hC ad H locs ls hR)
theorem j_lshl {g : GT} {μ : MT} {Rc : Room} {Qf : QF} {pc : Nat} {lv : List (Nat × Value)} {st : List Value} {uc us : Nat} {Z : ZT} {I : IT} {L : LT} {x : Int64} {y : Int32} (hd : decode μ.2.1 pc = .ok (.lshl, 1)) (k : JW g μ Rc Qf (pc + 1) lv (.long (x <<< (y.toInt64 &&& 63)) :: st) uc us Z I L) : JW g μ Rc Qf pc lv (.int y :: .long x :: st) uc us Z I L := by
  intro p e R s m args below meth c D tc A ad0 n0 hC ad H locs ls hR
  exact lv_lshl hC.1 hC.2.1 hd rfl (k p e R s m args below meth c D tc A ad0 n0 hC ad H locs ls hR)
theorem j_lshr {g : GT} {μ : MT} {Rc : Room} {Qf : QF} {pc : Nat} {lv : List (Nat × Value)} {st : List Value} {uc us : Nat} {Z : ZT} {I : IT} {L : LT} {x : Int64} {y : Int32} (hd : decode μ.2.1 pc = .ok (.lshr, 1)) (k : JW g μ Rc Qf (pc + 1) lv (.long (x >>> (y.toInt64 &&& 63)) :: st) uc us Z I L) : JW g μ Rc Qf pc lv (.int y :: .long x :: st) uc us Z I L := by
  intro p e R s m args below meth c D tc A ad0 n0 hC ad H locs ls hR
  exact lv_lshr hC.1 hC.2.1 hd rfl (k p e R s m args below meth c D tc A ad0 n0 hC ad H locs ls hR)
theorem j_lushr {g : GT} {μ : MT} {Rc : Room} {Qf : QF} {pc : Nat} {lv : List (Nat × Value)} {st : List Value} {uc us : Nat} {Z : ZT} {I : IT} {L : LT} {x : Int64} {y : Int32} (hd : decode μ.2.1 pc = .ok (.lushr, 1)) (k : JW g μ Rc Qf (pc + 1) lv (.long ((x.toUInt64 >>> (y.toInt64.toUInt64 &&& Int64.toUInt64 63)).toInt64) :: st) uc us Z I L) : JW g μ Rc Qf pc lv (.int y :: .long x :: st) uc us Z I L := by
  intro p e R s m args below meth c D tc A ad0 n0 hC ad H locs ls hR
  exact lv_lushr hC.1 hC.2.1 hd rfl (k p e R s m args below meth c D tc A ad0 n0 hC ad H locs ls hR)
theorem j_i2l {g : GT} {μ : MT} {Rc : Room} {Qf : QF} {pc : Nat} {lv : List (Nat × Value)} {st : List Value} {uc us : Nat} {Z : ZT} {I : IT} {L : LT} {x : Int32} (hd : decode μ.2.1 pc = .ok (.i2l, 1)) (k : JW g μ Rc Qf (pc + 1) lv (.long x.toInt64 :: st) uc us Z I L) : JW g μ Rc Qf pc lv (.int x :: st) uc us Z I L := by
  intro p e R s m args below meth c D tc A ad0 n0 hC ad H locs ls hR
  exact lv_i2l hC.1 hC.2.1 hd rfl (k p e R s m args below meth c D tc A ad0 n0 hC ad H locs ls hR)
theorem j_l2i {g : GT} {μ : MT} {Rc : Room} {Qf : QF} {pc : Nat} {lv : List (Nat × Value)} {st : List Value} {uc us : Nat} {Z : ZT} {I : IT} {L : LT} {x : Int64} (hd : decode μ.2.1 pc = .ok (.l2i, 1)) (k : JW g μ Rc Qf (pc + 1) lv (.int x.toInt32 :: st) uc us Z I L) : JW g μ Rc Qf pc lv (.long x :: st) uc us Z I L := by
  intro p e R s m args below meth c D tc A ad0 n0 hC ad H locs ls hR
  exact lv_l2i hC.1 hC.2.1 hd rfl (k p e R s m args below meth c D tc A ad0 n0 hC ad H locs ls hR)
theorem j_dup {g : GT} {μ : MT} {Rc : Room} {Qf : QF} {pc : Nat} {lv : List (Nat × Value)} {st : List Value} {uc us : Nat} {Z : ZT} {I : IT} {L : LT} {v : Value} (hd : decode μ.2.1 pc = .ok (.dup, 1)) (hv : v.category = 1) (k : JW g μ Rc Qf (pc + 1) lv (v :: v :: st) uc us Z I L) : JW g μ Rc Qf pc lv (v :: st) uc us Z I L := by
  intro p e R s m args below meth c D tc A ad0 n0 hC ad H locs ls hR
  exact lv_dup hC.1 hC.2.1 hd (by rw [cv_cat]; exact hv) (k p e R s m args below meth c D tc A ad0 n0 hC ad H locs ls hR)
theorem j_dup2 {g : GT} {μ : MT} {Rc : Room} {Qf : QF} {pc : Nat} {lv : List (Nat × Value)} {st : List Value} {uc us : Nat} {Z : ZT} {I : IT} {L : LT} {v w : Value} (hd : decode μ.2.1 pc = .ok (.dup2, 1)) (hv : v.category = 1) (hw : w.category = 1) (k : JW g μ Rc Qf (pc + 1) lv (v :: w :: v :: w :: st) uc us Z I L) : JW g μ Rc Qf pc lv (v :: w :: st) uc us Z I L := by
  intro p e R s m args below meth c D tc A ad0 n0 hC ad H locs ls hR
  exact lv_dup2_11 hC.1 hC.2.1 hd (by rw [cv_cat]; assumption) (by rw [cv_cat]; assumption) (k p e R s m args below meth c D tc A ad0 n0 hC ad H locs ls hR)
theorem j_pop {g : GT} {μ : MT} {Rc : Room} {Qf : QF} {pc : Nat} {lv : List (Nat × Value)} {st : List Value} {uc us : Nat} {Z : ZT} {I : IT} {L : LT} {v : Value} (hd : decode μ.2.1 pc = .ok (.pop, 1)) (hv : v.category = 1) (k : JW g μ Rc Qf (pc + 1) lv st uc us Z I L) : JW g μ Rc Qf pc lv (v :: st) uc us Z I L := by
  intro p e R s m args below meth c D tc A ad0 n0 hC ad H locs ls hR
  exact lv_pop hC.1 hC.2.1 hd (by rw [cv_cat]; exact hv) (k p e R s m args below meth c D tc A ad0 n0 hC ad H locs ls hR)
theorem j_if_eq {g : GT} {μ : MT} {Rc : Room} {Qf : QF} {pc : Nat} {lv : List (Nat × Value)} {st : List Value} {uc us : Nat} {Z : ZT} {I : IT} {L : LT} {x : Int32} {off : Int} {tgt : Nat} (hd : decode μ.2.1 pc = .ok (.ifCond .eq off, 3)) (ht : (pc : Int) + off = (tgt : Int)) (kt : x = 0 → JW g μ Rc Qf tgt lv st uc us Z I L) (kf : ¬ x = 0 → JW g μ Rc Qf (pc + 3) lv st uc us Z I L) : JW g μ Rc Qf pc lv (.int x :: st) uc us Z I L := by
  intro p e R s m args below meth c D tc A ad0 n0 hC ad H locs ls hR
  exact lv_if_eq hC.1 hC.2.1 hd ht (fun h => kt h p e R s m args below meth c D tc A ad0 n0 hC ad H locs ls hR) (fun h => kf h p e R s m args below meth c D tc A ad0 n0 hC ad H locs ls hR)
theorem j_icmp_eq {g : GT} {μ : MT} {Rc : Room} {Qf : QF} {pc : Nat} {lv : List (Nat × Value)} {st : List Value} {uc us : Nat} {Z : ZT} {I : IT} {L : LT} {x y : Int32} {off : Int} {tgt : Nat} (hd : decode μ.2.1 pc = .ok (.if_icmp .eq off, 3)) (ht : (pc : Int) + off = (tgt : Int)) (kt : x = y → JW g μ Rc Qf tgt lv st uc us Z I L) (kf : ¬ x = y → JW g μ Rc Qf (pc + 3) lv st uc us Z I L) : JW g μ Rc Qf pc lv (.int y :: .int x :: st) uc us Z I L := by
  intro p e R s m args below meth c D tc A ad0 n0 hC ad H locs ls hR
  exact lv_icmp_eq hC.1 hC.2.1 hd ht (fun h => kt h p e R s m args below meth c D tc A ad0 n0 hC ad H locs ls hR) (fun h => kf h p e R s m args below meth c D tc A ad0 n0 hC ad H locs ls hR)
theorem j_if_ne {g : GT} {μ : MT} {Rc : Room} {Qf : QF} {pc : Nat} {lv : List (Nat × Value)} {st : List Value} {uc us : Nat} {Z : ZT} {I : IT} {L : LT} {x : Int32} {off : Int} {tgt : Nat} (hd : decode μ.2.1 pc = .ok (.ifCond .ne off, 3)) (ht : (pc : Int) + off = (tgt : Int)) (kt : ¬ x = 0 → JW g μ Rc Qf tgt lv st uc us Z I L) (kf : x = 0 → JW g μ Rc Qf (pc + 3) lv st uc us Z I L) : JW g μ Rc Qf pc lv (.int x :: st) uc us Z I L := by
  intro p e R s m args below meth c D tc A ad0 n0 hC ad H locs ls hR
  exact lv_if_ne hC.1 hC.2.1 hd ht (fun h => kt h p e R s m args below meth c D tc A ad0 n0 hC ad H locs ls hR) (fun h => kf h p e R s m args below meth c D tc A ad0 n0 hC ad H locs ls hR)
theorem j_icmp_ne {g : GT} {μ : MT} {Rc : Room} {Qf : QF} {pc : Nat} {lv : List (Nat × Value)} {st : List Value} {uc us : Nat} {Z : ZT} {I : IT} {L : LT} {x y : Int32} {off : Int} {tgt : Nat} (hd : decode μ.2.1 pc = .ok (.if_icmp .ne off, 3)) (ht : (pc : Int) + off = (tgt : Int)) (kt : ¬ x = y → JW g μ Rc Qf tgt lv st uc us Z I L) (kf : x = y → JW g μ Rc Qf (pc + 3) lv st uc us Z I L) : JW g μ Rc Qf pc lv (.int y :: .int x :: st) uc us Z I L := by
  intro p e R s m args below meth c D tc A ad0 n0 hC ad H locs ls hR
  exact lv_icmp_ne hC.1 hC.2.1 hd ht (fun h => kt h p e R s m args below meth c D tc A ad0 n0 hC ad H locs ls hR) (fun h => kf h p e R s m args below meth c D tc A ad0 n0 hC ad H locs ls hR)
theorem j_if_lt {g : GT} {μ : MT} {Rc : Room} {Qf : QF} {pc : Nat} {lv : List (Nat × Value)} {st : List Value} {uc us : Nat} {Z : ZT} {I : IT} {L : LT} {x : Int32} {off : Int} {tgt : Nat} (hd : decode μ.2.1 pc = .ok (.ifCond .lt off, 3)) (ht : (pc : Int) + off = (tgt : Int)) (kt : x < 0 → JW g μ Rc Qf tgt lv st uc us Z I L) (kf : ¬ x < 0 → JW g μ Rc Qf (pc + 3) lv st uc us Z I L) : JW g μ Rc Qf pc lv (.int x :: st) uc us Z I L := by
  intro p e R s m args below meth c D tc A ad0 n0 hC ad H locs ls hR
  exact lv_if_lt hC.1 hC.2.1 hd ht (fun h => kt h p e R s m args below meth c D tc A ad0 n0 hC ad H locs ls hR) (fun h => kf h p e R s m args below meth c D tc A ad0 n0 hC ad H locs ls hR)
theorem j_icmp_lt {g : GT} {μ : MT} {Rc : Room} {Qf : QF} {pc : Nat} {lv : List (Nat × Value)} {st : List Value} {uc us : Nat} {Z : ZT} {I : IT} {L : LT} {x y : Int32} {off : Int} {tgt : Nat} (hd : decode μ.2.1 pc = .ok (.if_icmp .lt off, 3)) (ht : (pc : Int) + off = (tgt : Int)) (kt : x < y → JW g μ Rc Qf tgt lv st uc us Z I L) (kf : ¬ x < y → JW g μ Rc Qf (pc + 3) lv st uc us Z I L) : JW g μ Rc Qf pc lv (.int y :: .int x :: st) uc us Z I L := by
  intro p e R s m args below meth c D tc A ad0 n0 hC ad H locs ls hR
  exact lv_icmp_lt hC.1 hC.2.1 hd ht (fun h => kt h p e R s m args below meth c D tc A ad0 n0 hC ad H locs ls hR) (fun h => kf h p e R s m args below meth c D tc A ad0 n0 hC ad H locs ls hR)
theorem j_if_ge {g : GT} {μ : MT} {Rc : Room} {Qf : QF} {pc : Nat} {lv : List (Nat × Value)} {st : List Value} {uc us : Nat} {Z : ZT} {I : IT} {L : LT} {x : Int32} {off : Int} {tgt : Nat} (hd : decode μ.2.1 pc = .ok (.ifCond .ge off, 3)) (ht : (pc : Int) + off = (tgt : Int)) (kt : 0 ≤ x → JW g μ Rc Qf tgt lv st uc us Z I L) (kf : ¬ 0 ≤ x → JW g μ Rc Qf (pc + 3) lv st uc us Z I L) : JW g μ Rc Qf pc lv (.int x :: st) uc us Z I L := by
  intro p e R s m args below meth c D tc A ad0 n0 hC ad H locs ls hR
  exact lv_if_ge hC.1 hC.2.1 hd ht (fun h => kt h p e R s m args below meth c D tc A ad0 n0 hC ad H locs ls hR) (fun h => kf h p e R s m args below meth c D tc A ad0 n0 hC ad H locs ls hR)
theorem j_icmp_ge {g : GT} {μ : MT} {Rc : Room} {Qf : QF} {pc : Nat} {lv : List (Nat × Value)} {st : List Value} {uc us : Nat} {Z : ZT} {I : IT} {L : LT} {x y : Int32} {off : Int} {tgt : Nat} (hd : decode μ.2.1 pc = .ok (.if_icmp .ge off, 3)) (ht : (pc : Int) + off = (tgt : Int)) (kt : y ≤ x → JW g μ Rc Qf tgt lv st uc us Z I L) (kf : ¬ y ≤ x → JW g μ Rc Qf (pc + 3) lv st uc us Z I L) : JW g μ Rc Qf pc lv (.int y :: .int x :: st) uc us Z I L := by
  intro p e R s m args below meth c D tc A ad0 n0 hC ad H locs ls hR
  exact lv_icmp_ge hC.1 hC.2.1 hd ht (fun h => kt h p e R s m args below meth c D tc A ad0 n0 hC ad H locs ls hR) (fun h => kf h p e R s m args below meth c D tc A ad0 n0 hC ad H locs ls hR)
theorem j_if_gt {g : GT} {μ : MT} {Rc : Room} {Qf : QF} {pc : Nat} {lv : List (Nat × Value)} {st : List Value} {uc us : Nat} {Z : ZT} {I : IT} {L : LT} {x : Int32} {off : Int} {tgt : Nat} (hd : decode μ.2.1 pc = .ok (.ifCond .gt off, 3)) (ht : (pc : Int) + off = (tgt : Int)) (kt : 0 < x → JW g μ Rc Qf tgt lv st uc us Z I L) (kf : ¬ 0 < x → JW g μ Rc Qf (pc + 3) lv st uc us Z I L) : JW g μ Rc Qf pc lv (.int x :: st) uc us Z I L := by
  intro p e R s m args below meth c D tc A ad0 n0 hC ad H locs ls hR
  exact lv_if_gt hC.1 hC.2.1 hd ht (fun h => kt h p e R s m args below meth c D tc A ad0 n0 hC ad H locs ls hR) (fun h => kf h p e R s m args below meth c D tc A ad0 n0 hC ad H locs ls hR)
theorem j_icmp_gt {g : GT} {μ : MT} {Rc : Room} {Qf : QF} {pc : Nat} {lv : List (Nat × Value)} {st : List Value} {uc us : Nat} {Z : ZT} {I : IT} {L : LT} {x y : Int32} {off : Int} {tgt : Nat} (hd : decode μ.2.1 pc = .ok (.if_icmp .gt off, 3)) (ht : (pc : Int) + off = (tgt : Int)) (kt : y < x → JW g μ Rc Qf tgt lv st uc us Z I L) (kf : ¬ y < x → JW g μ Rc Qf (pc + 3) lv st uc us Z I L) : JW g μ Rc Qf pc lv (.int y :: .int x :: st) uc us Z I L := by
  intro p e R s m args below meth c D tc A ad0 n0 hC ad H locs ls hR
  exact lv_icmp_gt hC.1 hC.2.1 hd ht (fun h => kt h p e R s m args below meth c D tc A ad0 n0 hC ad H locs ls hR) (fun h => kf h p e R s m args below meth c D tc A ad0 n0 hC ad H locs ls hR)
theorem j_if_le {g : GT} {μ : MT} {Rc : Room} {Qf : QF} {pc : Nat} {lv : List (Nat × Value)} {st : List Value} {uc us : Nat} {Z : ZT} {I : IT} {L : LT} {x : Int32} {off : Int} {tgt : Nat} (hd : decode μ.2.1 pc = .ok (.ifCond .le off, 3)) (ht : (pc : Int) + off = (tgt : Int)) (kt : x ≤ 0 → JW g μ Rc Qf tgt lv st uc us Z I L) (kf : ¬ x ≤ 0 → JW g μ Rc Qf (pc + 3) lv st uc us Z I L) : JW g μ Rc Qf pc lv (.int x :: st) uc us Z I L := by
  intro p e R s m args below meth c D tc A ad0 n0 hC ad H locs ls hR
  exact lv_if_le hC.1 hC.2.1 hd ht (fun h => kt h p e R s m args below meth c D tc A ad0 n0 hC ad H locs ls hR) (fun h => kf h p e R s m args below meth c D tc A ad0 n0 hC ad H locs ls hR)
theorem j_icmp_le {g : GT} {μ : MT} {Rc : Room} {Qf : QF} {pc : Nat} {lv : List (Nat × Value)} {st : List Value} {uc us : Nat} {Z : ZT} {I : IT} {L : LT} {x y : Int32} {off : Int} {tgt : Nat} (hd : decode μ.2.1 pc = .ok (.if_icmp .le off, 3)) (ht : (pc : Int) + off = (tgt : Int)) (kt : x ≤ y → JW g μ Rc Qf tgt lv st uc us Z I L) (kf : ¬ x ≤ y → JW g μ Rc Qf (pc + 3) lv st uc us Z I L) : JW g μ Rc Qf pc lv (.int y :: .int x :: st) uc us Z I L := by
  intro p e R s m args below meth c D tc A ad0 n0 hC ad H locs ls hR
  exact lv_icmp_le hC.1 hC.2.1 hd ht (fun h => kt h p e R s m args below meth c D tc A ad0 n0 hC ad H locs ls hR) (fun h => kf h p e R s m args below meth c D tc A ad0 n0 hC ad H locs ls hR)
theorem j_goto {g : GT} {μ : MT} {Rc : Room} {Qf : QF} {pc : Nat} {lv : List (Nat × Value)} {st : List Value} {uc us : Nat} {Z : ZT} {I : IT} {L : LT} {off : Int} {tgt : Nat} (hd : decode μ.2.1 pc = .ok (.goto off, 3)) (ht : (pc : Int) + off = (tgt : Int)) (k : JW g μ Rc Qf tgt lv st uc us Z I L) : JW g μ Rc Qf pc lv st uc us Z I L := by
  intro p e R s m args below meth c D tc A ad0 n0 hC ad H locs ls hR
  exact lv_goto hC.1 hC.2.1 hd ht (k p e R s m args below meth c D tc A ad0 n0 hC ad H locs ls hR)
theorem j_tsIn {g : GT} {μ : MT} {Rc : Room} {Qf : QF} {pc : Nat} {lv : List (Nat × Value)} {st : List Value} {uc us : Nat} {Z : ZT} {I : IT} {L : LT} {dflt lo hi : Int} {offs : Array Int} {len : Nat} {x : Int32} {off : Int} {tgt : Nat} (hd : decode μ.2.1 pc = .ok (.tableswitch dflt lo hi offs, len)) (h1 : ¬ x.toInt < lo) (h2 : ¬ hi < x.toInt) (ho : offs[(x.toInt - lo).toNat]? = some off) (ht : (pc : Int) + off = (tgt : Int)) (k : JW g μ Rc Qf tgt lv st uc us Z I L) : JW g μ Rc Qf pc lv (.int x :: st) uc us Z I L := by
  intro p e R s m args below meth c D tc A ad0 n0 hC ad H locs ls hR
  exact lv_tableIn hC.1 hC.2.1 hd h1 h2 ho ht (k p e R s m args below meth c D tc A ad0 n0 hC ad H locs ls hR)
theorem j_tsOut {g : GT} {μ : MT} {Rc : Room} {Qf : QF} {pc : Nat} {lv : List (Nat × Value)} {st : List Value} {uc us : Nat} {Z : ZT} {I : IT} {L : LT} {dflt lo hi : Int} {offs : Array Int} {len : Nat} {x : Int32} {tgt : Nat} (hd : decode μ.2.1 pc = .ok (.tableswitch dflt lo hi offs, len)) (h : x.toInt < lo ∨ hi < x.toInt) (ht : (pc : Int) + dflt = (tgt : Int)) (k : JW g μ Rc Qf tgt lv st uc us Z I L) : JW g μ Rc Qf pc lv (.int x :: st) uc us Z I L := by
  intro p e R s m args below meth c D tc A ad0 n0 hC ad H locs ls hR
  exact lv_tableOut hC.1 hC.2.1 hd h ht (k p e R s m args below meth c D tc A ad0 n0 hC ad H locs ls hR)
theorem j_lsw {g : GT} {μ : MT} {Rc : Room} {Qf : QF} {pc : Nat} {lv : List (Nat × Value)} {st : List Value} {uc us : Nat} {Z : ZT} {I : IT} {L : LT} {dflt : Int} {ps : Array (Int × Int)} {len : Nat} {x : Int32} {off : Int} {tgt : Nat} (hd : decode μ.2.1 pc = .ok (.lookupswitch dflt ps, len)) (hp : (ps.toList.zip (ps.toList.drop 1)).all (fun (a, next) => a.1 < next.1) = true) (ho : Op.lookupswitch.offset ps.toList dflt x.toInt = off) (ht : (pc : Int) + off = (tgt : Int)) (k : JW g μ Rc Qf tgt lv st uc us Z I L) : JW g μ Rc Qf pc lv (.int x :: st) uc us Z I L := by
  intro p e R s m args below meth c D tc A ad0 n0 hC ad H locs ls hR
  exact lv_lookup hC.1 hC.2.1 hd hp ho ht (k p e R s m args below meth c D tc A ad0 n0 hC ad H locs ls hR)
theorem JW.at {g : GT} {μ : MT} {Rc : Room} {Qf : QF} {pc : Nat} {lv : List (Nat × Value)} {st : List Value} {uc us : Nat} {Z : ZT} {I : IT} {L : LT} {pc' : Nat} {lv' : List (Nat × Value)} {st' : List Value} {Z' : ZT} {I' : IT} {L' : LT} (k : JW g μ Rc Qf pc' lv' st' uc us Z' I' L') (h1 : pc' = pc) (h2 : lv' = lv) (h3 : st' = st) (h4 : Z' = Z) (h5 : I' = I) (h6 : L' = L) : JW g μ Rc Qf pc lv st uc us Z I L := by
  subst h1; subst h2; subst h3; subst h4; subst h5; subst h6; exact k
end
section
theorem fA_in {own : String} {idx ci k : Nat} (h : FA own idx ci k) : ci < 7 := by obtain ⟨_, _, _, _, _, _, _, _, _, _, _, _, _, _, _, h⟩ := h; exact h
theorem rl_lt {D : va_G} {tc : TC} {A : Nat → Prop} {s : State} {nL : Nat} {ad0 : Nat → Nat} {n0 uc : Nat} {lv : List (Nat × Value)} {Z : ZT} {I : IT} {L : LT} {ad : Nat → Nat} {H : Heap} {locs : List Loc} {ls : Array Slot} (hR : pRL D tc A s nL ad0 n0 uc lv Z I L ad H locs ls) {a c : Nat} (h : zK Z a = c) (hc : c < 10) : a < zN Z := hR.2.2.2.2.1.1 a (by omega)
section JR
variable {g : GT} {μ : MT} {Rc : Room} {Qf : QF} {pc : Nat} {lv : List (Nat × Value)} {st : List Value} {uc us : Nat} {Z : ZT} {I : IT} {L : LT}
theorem j_get {a idx ci f : Nat} (hd : decode μ.2.1 pc = .ok (.getfield idx, 3)) (hf : FA μ.1.cls idx ci f) (hK : zK Z a = ci) {w : Value} (hw : ∀ ad : Nat → Nat, fV ad Z I L a f = cv ad w) (k : JW g μ Rc Qf (pc + 3) lv (w :: st) uc us Z I L) : JW g μ Rc Qf pc lv (.ref a :: st) uc us Z I L := by
  intro p e R s m args below meth c D tc A ad0 n0 hC ad H locs ls hR
  obtain ⟨C, T, N, ty, hc, hN, hk, hin, hty, hnm, hlk, -, -, -, -, h7⟩ := hf
  have ha := rl_lt hR hK (by omega)
  refine va_get (D := D) (ci := ci) (v := cv ad w) (C := C) (T := T) (N := N) hC.1 hC.2.1 hC.2.2.2.2.2.1 (gin_ws hin) hC.2.2.2.2.1 hC.2.2.2.2.2.2.2.2.2.2.1 hR.1 a ((wS_get ha).trans (by rw [cE_o hK h7])) hc f hk (hC.2.2.2.2.2.1 _ (gin hlk rfl)) (fun _ h => h) ?_ hd (k p e R s m args below meth c D tc A ad0 n0 hC ad H locs ls hR)
  rw [map_get (by omega), hw ad]
theorem j_getI {a idx ci f : Nat} (hd : decode μ.2.1 pc = .ok (.getfield idx, 3)) (hf : FA μ.1.cls idx ci f) (hK : zK Z a = ci) (k : JW g μ Rc Qf (pc + 3) lv (.int (I a f) :: st) uc us Z I L) (h0 : fk ci f ≤ 1 := by exact Nat.le_of_ble_eq_true rfl) : JW g μ Rc Qf pc lv (.ref a :: st) uc us Z I L :=
  j_get hd hf hK (w := .int (I a f)) (fun ad => by unfold fV; rw [hK, if_neg (by omega), if_neg (by omega)]; rfl) k
theorem j_getJ {a idx ci f : Nat} (hd : decode μ.2.1 pc = .ok (.getfield idx, 3)) (hf : FA μ.1.cls idx ci f) (hK : zK Z a = ci) (k : JW g μ Rc Qf (pc + 3) lv (.long (L a) :: st) uc us Z I L) (h0 : fk ci f = 2 := by rfl) : JW g μ Rc Qf pc lv (.ref a :: st) uc us Z I L :=
  j_get hd hf hK (w := .long (L a)) (fun ad => by unfold fV; rw [hK, if_neg (by omega), if_pos h0]; rfl) k
theorem j_getR {a idx ci f b : Nat} (hd : decode μ.2.1 pc = .ok (.getfield idx, 3)) (hf : FA μ.1.cls idx ci f) (hb : a + oF ci f = b) (hK : zK Z a = ci) (hS : zS Z a f = true) (k : JW g μ Rc Qf (pc + 3) lv (.ref b :: st) uc us Z I L) (h0 : fk ci f = 3 := by rfl) : JW g μ Rc Qf pc lv (.ref a :: st) uc us Z I L :=
  j_get hd hf hK (w := .ref b) (fun ad => by unfold fV; rw [hK, if_pos h0, if_pos hS, hb]; rfl) k
theorem fits_int (x : Int32) : fits .int (.int x) = true := rfl
theorem nar_bool {x : Int32} (h : x = 0 ∨ x = 1) : narrow .boolean (.int x) = .int x := by rcases h with rfl | rfl <;> rfl
theorem fits_bool {x : Int32} (h : x = 0 ∨ x = 1) : fits .boolean (.int x) = true := by rcases h with rfl | rfl <;> rfl
theorem okZ_same {Z : ZT} (h : okZ Z) : okZ Z := h
theorem fV_uI {ad : Nat → Nat} {Z : ZT} {I : IT} {L : LT} {a f : Nat} {x : Int32} {n : Nat} (hf : f < n) (h0 : fk (zK Z a) f ≤ 1) : ((List.range n).map (fV ad Z I L a)).set f (.int x) = (List.range n).map (fV ad Z (upI I a f x) L a) := by
  rw [← map_set (f := fV ad Z I L a) (f' := fV ad Z (upI I a f x) L a) hf (fun b _ hne => by unfold fV upI; rw [upR_s, upd_n hne])]
  congr 1
  unfold fV
  rw [if_neg (by omega), if_neg (by omega)]
  show Value.int x = Value.int (upR I a (upd (I a) f x) a f)
  rw [upR_s, upd_s]
theorem fV_uL {ad : Nat → Nat} {Z : ZT} {I : IT} {L : LT} {a f : Nat} {x : Int64} {n : Nat} (hf : f < n) (h0 : fk (zK Z a) f = 2) (h1 : ∀ b, b < n → fk (zK Z a) b = 2 → b = f) : ((List.range n).map (fV ad Z I L a)).set f (.long x) = (List.range n).map (fV ad Z I (upL L a x) a) := by
  rw [← map_set (f := fV ad Z I L a) (f' := fV ad Z I (upL L a x) a) hf (fun b hb hne => by
    unfold fV
    by_cases h3 : fk (zK Z a) b = 3
    · rw [if_pos h3, if_pos h3]
    · rw [if_neg h3, if_neg h3]
      by_cases h2 : fk (zK Z a) b = 2
      · exact absurd (h1 b hb h2) hne
      · rw [if_neg h2, if_neg h2])]
  congr 1
  unfold fV
  rw [if_neg (by omega), if_pos h0, upL_s]
set_option maxHeartbeats 1000000 in
theorem j_putX {a idx ci f : Nat} {x : Int32} (hd : decode μ.2.1 pc = .ok (.putfield idx, 3)) (hf : FA μ.1.cls idx ci f) (hK : zK Z a = ci) (k : JW g μ Rc Qf (pc + 3) lv st uc us Z (upI I a f x) L) (h0 : fk ci f = 0 ∨ fk ci f = 1 ∧ (x = 0 ∨ x = 1)) : JW g μ Rc Qf pc lv (.int x :: .ref a :: st) uc us Z I L := by
  intro p e R s m args below meth c D tc A ad0 n0 hC ad H locs ls hR
  obtain ⟨C, T, N, ty, hc, hN, hk, hin, hty, hnm, hlk, t0, t1, -, -, h7⟩ := hf
  have ha := rl_lt hR hK (by omega)
  have hfin : (T f).2.2.2 = false := by rcases h0 with h | h; exact (t0 h).2; exact (t1 h.1).2
  have hn : narrow (ty f) (.int x) = .int x := by
    rcases h0 with h | h
    · rw [(t0 h).1]; rfl
    · rw [(t1 h.1).1]; exact nar_bool h.2
  have hfit : fits (ty f) (.int x) = true := by
    rcases h0 with h | h
    · rw [(t0 h).1]; rfl
    · rw [(t1 h.1).1]; exact fits_bool h.2
  refine va_put (D := D) (ci := ci) (v := .int x) (ty := ty f) (C := C) (T := T) (N := N) hC.1 hC.2.1 hC.2.2.2.2.2.1 (gin_ws hin) ty hty hnm hC.2.2.2.2.1 hC.2.2.2.2.2.2.2.2.2.2.1 hR.1 hR.2.1 hR.2.2.1 a ((wS_get ha).trans (by rw [cE_o hK h7])) hc f hk (hC.2.2.2.2.2.1 _ (gin hlk rfl)) (fun _ h => h) hfin (hty f hk) hn hfit (by simp; omega) hd (fun H1 locs1 hP hD hS => ?_)
  have e9 : (wS tc ad Z I L).set a (ad a, .inr (ci, ((List.range (nf ci)).map (fV ad Z I L a)).set f (.int x))) = wS tc ad Z (upI I a f x) L := by
    refine wS_set ha rfl ?_ (fun b _ hne => cE_uI hne)
    rw [cE_o hK h7, fV_uI (by omega) (by rw [hK]; omega)]
  rw [e9] at hP hD
  exact k p e R s m args below meth c D tc A ad0 n0 hC ad H1 locs1 ls ⟨hP, hD, hS, hR.2.2.2⟩
theorem j_putI {a idx ci f : Nat} {x : Int32} (hd : decode μ.2.1 pc = .ok (.putfield idx, 3)) (hf : FA μ.1.cls idx ci f) (hK : zK Z a = ci) (k : JW g μ Rc Qf (pc + 3) lv st uc us Z (upI I a f x) L) (h0 : fk ci f = 0 := by rfl) : JW g μ Rc Qf pc lv (.int x :: .ref a :: st) uc us Z I L := j_putX hd hf hK k (Or.inl h0)
theorem j_putZ {a idx ci f : Nat} {x : Int32} (hd : decode μ.2.1 pc = .ok (.putfield idx, 3)) (hf : FA μ.1.cls idx ci f) (hx : x = 0 ∨ x = 1) (hK : zK Z a = ci) (k : JW g μ Rc Qf (pc + 3) lv st uc us Z (upI I a f x) L) (h0 : fk ci f = 1 := by rfl) : JW g μ Rc Qf pc lv (.int x :: .ref a :: st) uc us Z I L := j_putX hd hf hK k (Or.inr ⟨h0, hx⟩)
set_option maxHeartbeats 1000000 in
theorem j_putJ {a idx ci f : Nat} {x : Int64} (hd : decode μ.2.1 pc = .ok (.putfield idx, 3)) (hf : FA μ.1.cls idx ci f) (hK : zK Z a = ci) (k : JW g μ Rc Qf (pc + 3) lv st uc us Z I (upL L a x)) (h0 : fk ci f = 2 := by rfl) (h1 : ∀ b, b < nf ci → fk ci b = 2 → b = f := by decide) : JW g μ Rc Qf pc lv (.long x :: .ref a :: st) uc us Z I L := by
  intro p e R s m args below meth c D tc A ad0 n0 hC ad H locs ls hR
  obtain ⟨C, T, N, ty, hc, hN, hk, hin, hty, hnm, hlk, -, -, t2, -, h7⟩ := hf
  have ha := rl_lt hR hK (by omega)
  refine va_put (D := D) (ci := ci) (v := .long x) (ty := ty f) (C := C) (T := T) (N := N) hC.1 hC.2.1 hC.2.2.2.2.2.1 (gin_ws hin) ty hty hnm hC.2.2.2.2.1 hC.2.2.2.2.2.2.2.2.2.2.1 hR.1 hR.2.1 hR.2.2.1 a ((wS_get ha).trans (by rw [cE_o hK h7])) hc f hk (hC.2.2.2.2.2.1 _ (gin hlk rfl)) (fun _ h => h) (t2 h0).2 (hty f hk) (by rw [(t2 h0).1]; rfl) (by rw [(t2 h0).1]; rfl) (by simp; omega) hd (fun H1 locs1 hP hD hS => ?_)
  have e9 : (wS tc ad Z I L).set a (ad a, .inr (ci, ((List.range (nf ci)).map (fV ad Z I L a)).set f (.long x))) = wS tc ad Z I (upL L a x) := by
    refine wS_set ha rfl ?_ (fun b _ hne => cE_uL hne)
    rw [cE_o hK h7, fV_uL (by omega) (by rw [hK]; exact h0) (by rw [hK]; exact h1)]
  rw [e9] at hP hD
  exact k p e R s m args below meth c D tc A ad0 n0 hC ad H1 locs1 ls ⟨hP, hD, hS, hR.2.2.2⟩
/-- a final reference set: only where the place is the due one -/
def zSet (Z : ZT) (a f : Nat) : ZT := (Z.1, Z.2.1, Z.2.2.1, fun b j => if b = a ∧ j = f then true else Z.2.2.2 b j)
theorem zSet_N (Z : ZT) (a f : Nat) : zN (zSet Z a f) = zN Z := rfl
theorem zSet_K (Z : ZT) (a f b : Nat) : zK (zSet Z a f) b = zK Z b := rfl
theorem zSet_L (Z : ZT) (a f b : Nat) : zL (zSet Z a f) b = zL Z b := rfl
theorem zSet_s (Z : ZT) (a f : Nat) : zS (zSet Z a f) a f = true := by unfold zS zSet; exact if_pos ⟨rfl, rfl⟩
theorem zSet_n {Z : ZT} {a f b j : Nat} (h : ¬ (b = a ∧ j = f)) : zS (zSet Z a f) b j = zS Z b j := by unfold zS zSet; exact if_neg h
theorem zSet_k {Z : ZT} {a f b j : Nat} (h : zS Z b j = true) : zS (zSet Z a f) b j = true := by
  by_cases q : b = a ∧ j = f
  · obtain ⟨rfl, rfl⟩ := q; exact zSet_s _ _ _
  · rw [zSet_n q]; exact h
theorem zSet_ok {Z : ZT} {a f : Nat} (h : okZ Z) (ht : tG Z a f < zN Z) : okZ (zSet Z a f) := by
  refine ⟨h.1, h.2.1, fun b j hb hs => ?_, h.2.2.2⟩
  by_cases q : b = a ∧ j = f
  · obtain ⟨rfl, rfl⟩ := q; exact ht
  · rw [zSet_n q] at hs; exact h.2.2.1 b j hb hs
set_option maxHeartbeats 1000000 in
theorem j_putR {a idx ci f b : Nat} (hd : decode μ.2.1 pc = .ok (.putfield idx, 3)) (hf : FA μ.1.cls idx ci f) (hown : (vwCl[ci]?).map (fun q => q.1) = some μ.1.cls) (hin9 : μ.1.name = "<init>") (hb : a + oF ci f = b) (hK : zK Z a = ci) (hbn : b < zN Z) (k : JW g μ Rc Qf (pc + 3) lv st uc us (zSet Z a f) I L) (h0 : fk ci f = 3 := by rfl) : JW g μ Rc Qf pc lv (.ref b :: .ref a :: st) uc us Z I L := by
  intro p e R s m args below meth c D tc A ad0 n0 hC ad H locs ls hR
  obtain ⟨C, T, N, ty, hc, hN, hk, hin, hty, hnm, hlk, -, -, -, t3, h7⟩ := hf
  have ha := rl_lt hR hK (by omega)
  have hC9 : C = μ.1.cls := by rw [hc] at hown; exact Option.some.inj hown
  have hfit : narrow (ty f) (.ref (ad b)) = .ref (ad b) ∧ fits (ty f) (.ref (ad b)) = true := by
    have := (t3 h0).1
    revert this
    cases ty f <;> intro h <;> first | exact ⟨rfl, rfl⟩ | (exact absurd h (by decide))
  refine va_putF (D := D) (ci := ci) (v := .ref (ad b)) (ty := ty f) (C := C) (T := T) (N := N) hC.1 hC.2.1 hC.2.2.2.2.2.1 (gin_ws hin) ty hty hnm hC.2.2.2.2.1 hC.2.2.2.2.2.2.2.2.2.2.1 hR.1 hR.2.1 hR.2.2.1 a ((wS_get ha).trans (by rw [cE_o hK h7])) hc f hk (hC.2.2.2.2.2.1 _ (gin hlk rfl)) (fun _ h => h) (t3 h0).2.1 (hC.2.2.2.2.2.2.2.1.trans hin9) ((t3 h0).2.2.trans hC9) (hty f hk) hfit.1 hfit.2 (by simp; omega) hd (fun H1 locs1 hP hD hS => ?_)
  have e9 : (wS tc ad Z I L).set a (ad a, .inr (ci, ((List.range (nf ci)).map (fV ad Z I L a)).set f (.ref (ad b)))) = wS tc ad (zSet Z a f) I L := by
    refine wS_set ha rfl ?_ (fun q _ hne => ?_)
    · rw [cE_o (Z := zSet Z a f) hK h7]
      rw [← map_set (f := fV ad Z I L a) (f' := fV ad (zSet Z a f) I L a) (show f < nf ci by omega) (fun j _ hne => by unfold fV; rw [zSet_n (fun q => hne q.2), zSet_K])]
      have e8 : fV ad (zSet Z a f) I L a f = .ref (ad b) := by
        unfold fV
        rw [zSet_K, hK, if_pos h0, if_pos (zSet_s Z a f), hb]
      rw [e8]
    · have hv : fV ad (zSet Z a f) I L q = fV ad Z I L q := by funext j; unfold fV; rw [zSet_n (fun z => hne z.1)]; rfl
      have hz : (fun i => if zS (zSet Z a f) q i = true then some (ad (aB q + 7 * i)) else none) = (fun i => if zS Z q i = true then some (ad (aB q + 7 * i)) else none) := by funext i; rw [zSet_n (fun z => hne z.1)]
      unfold cE
      rw [hv, hz]
      rfl
  rw [e9] at hP hD
  refine k p e R s m args below meth c D tc A ad0 n0 hC ad H1 locs1 ls ⟨hP, hD, hS, hR.2.2.2.1, zSet_ok hR.2.2.2.2.1 ?_, hR.2.2.2.2.2⟩
  unfold tG
  rw [if_neg (by omega), hK, hb]
  exact hbn
end JR
end
section
theorem upI_s (I : IT) (a k : Nat) (v : Int32) : upI I a k v a = upd (I a) k v := if_pos rfl
theorem upI_n {I : IT} {a k b : Nat} {v : Int32} (h : b ≠ a) : upI I a k v b = I b := if_neg h
section JA
variable {g : GT} {μ : MT} {Rc : Room} {Qf : QF} {pc : Nat} {lv : List (Nat × Value)} {st : List Value} {uc us : Nat} {Z : ZT} {I : IT} {L : LT}
theorem j_iaload {a : Nat} {x : Int32} (j : Nat) (hd : decode μ.2.1 pc = .ok (.iaload, 1)) (hx : x = nI j) (hK : zK Z a = 7) (hj : j < zL Z a) (k : JW g μ Rc Qf (pc + 1) lv (.int (I a j) :: st) uc us Z I L) : JW g μ Rc Qf pc lv (.int x :: .ref a :: st) uc us Z I L := by
  intro p e R s m args below meth c D tc A ad0 n0 hC ad H locs ls hR
  have ha := rl_lt hR hK (by omega)
  have hlen := hR.2.2.2.2.1.2.1 a
  have hc : x.toNatClampNeg = j := by rw [hx]; exact nI_clamp (by omega)
  refine va_iald (D := D) hC.1 hC.2.1 hC.2.2.2.2.2.2.2.2.2.2.1 hR.1 a 0 ((wS_get ha).trans (by rw [cE_i hK])) rfl (by rw [hx]; exact vp_in_nI hj hlen) hd ?_
  rw [hc]
  exact k p e R s m args below meth c D tc A ad0 n0 hC ad H locs ls hR
theorem j_baload {a : Nat} {x : Int32} (j : Nat) (hd : decode μ.2.1 pc = .ok (.baload, 1)) (hx : x = nI j) (hK : zK Z a = 8) (hj : j < zL Z a) (k : JW g μ Rc Qf (pc + 1) lv (.int (I a j) :: st) uc us Z I L) : JW g μ Rc Qf pc lv (.int x :: .ref a :: st) uc us Z I L := by
  intro p e R s m args below meth c D tc A ad0 n0 hC ad H locs ls hR
  have ha := rl_lt hR hK (by omega)
  have hlen := hR.2.2.2.2.1.2.1 a
  have hc : x.toNatClampNeg = j := by rw [hx]; exact nI_clamp (by omega)
  refine va_zald (D := D) hC.1 hC.2.1 hC.2.2.2.2.2.2.2.2.2.2.1 hR.1 a 1 ((wS_get ha).trans (by rw [cE_z hK])) rfl (by rw [hx]; exact vp_in_nI hj hlen) hd ?_
  rw [hc]
  exact k p e R s m args below meth c D tc A ad0 n0 hC ad H locs ls hR
theorem j_iastore {a : Nat} {x v : Int32} (j : Nat) (hd : decode μ.2.1 pc = .ok (.iastore, 1)) (hx : x = nI j) (hK : zK Z a = 7) (hj : j < zL Z a) (k : JW g μ Rc Qf (pc + 1) lv st uc us Z (upI I a j v) L) : JW g μ Rc Qf pc lv (.int v :: .int x :: .ref a :: st) uc us Z I L := by
  intro p e R s m args below meth c D tc A ad0 n0 hC ad H locs ls hR
  have ha := rl_lt hR hK (by omega)
  have hlen := hR.2.2.2.2.1.2.1 a
  have hc : x.toNatClampNeg = j := by rw [hx]; exact nI_clamp (by omega)
  refine va_iast (D := D) hC.1 hC.2.1 hC.2.2.2.2.2.2.2.2.2.2.1 hR.1 hR.2.1 hR.2.2.1 a 0 ((wS_get ha).trans (by rw [cE_i hK])) rfl (by rw [hx]; exact vp_in_nI hj hlen) hd (fun H1 locs1 hP hD hS => ?_)
  rw [hc] at hP hD
  have e9 : (wS tc ad Z I L).set a (ad a, .inl (tc.1, zL Z a, .inl (upd (I a) j v))) = wS tc ad Z (upI I a j v) L := wS_set ha rfl (by rw [cE_i hK, upI_s]) (fun b _ hne => cE_uI hne)
  rw [e9] at hP hD
  exact k p e R s m args below meth c D tc A ad0 n0 hC ad H1 locs1 ls ⟨hP, hD, hS, hR.2.2.2⟩
theorem j_bastore {a : Nat} {x v : Int32} (j : Nat) (hd : decode μ.2.1 pc = .ok (.bastore, 1)) (hx : x = nI j) (hv : v = 0 ∨ v = 1) (hK : zK Z a = 8) (hj : j < zL Z a) (k : JW g μ Rc Qf (pc + 1) lv st uc us Z (upI I a j v) L) : JW g μ Rc Qf pc lv (.int v :: .int x :: .ref a :: st) uc us Z I L := by
  intro p e R s m args below meth c D tc A ad0 n0 hC ad H locs ls hR
  have ha := rl_lt hR hK (by omega)
  have hlen := hR.2.2.2.2.1.2.1 a
  have hc : x.toNatClampNeg = j := by rw [hx]; exact nI_clamp (by omega)
  have hvn : vp_nar .boolean v = v := by rcases hv with rfl | rfl <;> rfl
  refine va_zast (D := D) hC.1 hC.2.1 hC.2.2.2.2.2.2.2.2.2.2.1 hR.1 hR.2.1 hR.2.2.1 a 1 ((wS_get ha).trans (by rw [cE_z hK])) rfl (by rw [hx]; exact vp_in_nI hj hlen) hd (fun H1 locs1 hP hD hS => ?_)
  rw [hc, hvn] at hP hD
  have e9 : (wS tc ad Z I L).set a (ad a, .inl (tc.2.1, zL Z a, .inl (upd (I a) j v))) = wS tc ad Z (upI I a j v) L := wS_set ha rfl (by rw [cE_z hK, upI_s]) (fun b _ hne => cE_uI hne)
  rw [e9] at hP hD
  exact k p e R s m args below meth c D tc A ad0 n0 hC ad H1 locs1 ls ⟨hP, hD, hS, hR.2.2.2⟩
theorem j_aaload {a b : Nat} {x : Int32} (j : Nat) (hd : decode μ.2.1 pc = .ok (.aaload, 1)) (hx : x = nI j) (hb : aB a + 7 * j = b) (hK : zK Z a = 9) (hj : j < zL Z a) (hS : zS Z a j = true) (k : JW g μ Rc Qf (pc + 1) lv (.ref b :: st) uc us Z I L) : JW g μ Rc Qf pc lv (.int x :: .ref a :: st) uc us Z I L := by
  intro p e R s m args below meth c D tc A ad0 n0 hC ad H locs ls hR
  have ha := rl_lt hR hK (by omega)
  have hlen := hR.2.2.2.2.1.2.1 a
  have hc : x.toNatClampNeg = j := by rw [hx]; exact nI_clamp (by omega)
  refine va_aldq (D := D) (C := RX2) hC.1 hC.2.1 hC.2.2.2.2.2.2.2.2.2.2.1 hR.1 a 2 ((wS_get ha).trans (by rw [cE_q hK])) rfl (by rw [hx]; exact vp_in_nI hj hlen) hd ?_
  rw [hc, if_pos hS, hb]
  exact k p e R s m args below meth c D tc A ad0 n0 hC ad H locs ls hR
theorem j_alen {a : Nat} {v : Int32} (hd : decode μ.2.1 pc = .ok (.arraylength, 1)) (hK : zK Z a = 7 ∨ zK Z a = 9) (hv : nI (zL Z a) = v) (k : JW g μ Rc Qf (pc + 1) lv (.int v :: st) uc us Z I L) : JW g μ Rc Qf pc lv (.ref a :: st) uc us Z I L := by
  intro p e R s m args below meth c D tc A ad0 n0 hC ad H locs ls hR
  rcases hK with hK | hK
  · have ha := rl_lt hR hK (by omega)
    exact va_alen (D := D) hC.1 hC.2.1 hC.2.2.2.2.2.2.2.2.2.2.1 hR.1 a 0 (x := (zL Z a, .inl (I a))) ((wS_get ha).trans (by rw [cE_i hK])) rfl hv hd (k p e R s m args below meth c D tc A ad0 n0 hC ad H locs ls hR)
  · have ha := rl_lt hR hK (by omega)
    exact va_alen (D := D) hC.1 hC.2.1 hC.2.2.2.2.2.2.2.2.2.2.1 hR.1 a 2 (x := (zL Z a, .inr (.inr (.inr (.inr (fun i => if zS Z a i = true then some (ad (aB a + 7 * i)) else none)))))) ((wS_get ha).trans (by rw [cE_q hK])) rfl hv hd (k p e R s m args below meth c D tc A ad0 n0 hC ad H locs ls hR)
/-- the static row, and the script -/
theorem ro_ad {D : va_G} {tc : TC} {A : Nat → Prop} {s : State} {nL : Nat} {ad0 : Nat → Nat} {n0 uc : Nat} {lv : List (Nat × Value)} {Z : ZT} {I : IT} {L : LT} {ad : Nat → Nat} {H : Heap} {locs : List Loc} {ls : Array Slot} (hR : pRL D tc A s nL ad0 n0 uc lv Z I L ad H locs ls) {a : Nat} (h : 1000 ≤ a) : ad a = ad0 a := hR.2.2.2.2.2.2.2 a (Or.inr (Nat.le_of_lt (Nat.lt_of_lt_of_le hR.2.2.2.2.1.2.2.2 h)))
theorem j_gets {idx : Nat} (hd : decode μ.2.1 pc = .ok (.getstatic idx, 3)) (hw : Cond.fieldLink μ.1.cls idx RX5 "ORDERS_AFTER" "[I" ∈ lw_tbl) (k : JW g μ Rc Qf (pc + 3) lv (.ref 1000 :: st) uc us Z I L) : JW g μ Rc Qf pc lv st uc us Z I L := by
  intro p e R s m args below meth c D tc A ad0 n0 hC ad H locs ls hR
  have h := k p e R s m args below meth c D tc A ad0 n0 hC ad H locs ls hR
  have e9 : List.map (cv ad) (.ref 1000 :: st) = .ref (ad0 1000) :: List.map (cv ad) st := by
    show Value.ref (ad 1000) :: _ = _
    rw [ro_ad hR (Nat.le_refl _)]
  rw [e9] at h
  exact va_gets hC.1 hC.2.1 hC.2.2.2.2.2.2.2.2.2.2.2.1.1 hR.2.2.1 hC.2.2.2.2.1 (hC.2.2.2.2.2.1 _ (gin hw rfl)) (fun _ h => h) hd h
theorem j_oaload {x : Int32} (j : Nat) (hd : decode μ.2.1 pc = .ok (.iaload, 1)) (hx : x = nI j) (hj : j < 4) (k : JW g μ Rc Qf (pc + 1) lv (.int (ordF j) :: st) uc us Z I L) : JW g μ Rc Qf pc lv (.int x :: .ref 1000 :: st) uc us Z I L := by
  intro p e R s m args below meth c D tc A ad0 n0 hC ad H locs ls hR
  have hc : x.toNatClampNeg = j := by rw [hx]; exact nI_clamp (by omega)
  have e9 : List.map (cv ad) (.int x :: .ref 1000 :: st) = .int x :: .ref (ad0 1000) :: List.map (cv ad) st := by
    show Value.int x :: Value.ref (ad 1000) :: _ = _
    rw [ro_ad hR (Nat.le_refl _)]
  rw [e9]
  exact va_ti hC.1 hC.2.1 hC.2.2.2.2.2.2.2.2.2.2.2.1.2.1 hR.2.2.1 (by rw [hx]; exact vp_in_nI hj (by decide)) (v := .int (ordF j)) (by rw [hc]) hd (k p e R s m args below meth c D tc A ad0 n0 hC ad H locs ls hR)
theorem j_saload {x : Int32} (j : Nat) (hd : decode μ.2.1 pc = .ok (.iaload, 1)) (hx : x = nI j) (hj : j < g.2.1) (hg : g.2.1 < 2 ^ 31) (k : JW g μ Rc Qf (pc + 1) lv (.int (g.2.2 j) :: st) uc us Z I L) : JW g μ Rc Qf pc lv (.int x :: .ref 1001 :: st) uc us Z I L := by
  intro p e R s m args below meth c D tc A ad0 n0 hC ad H locs ls hR
  have hc : x.toNatClampNeg = j := by rw [hx]; exact nI_clamp (by omega)
  have e9 : List.map (cv ad) (.int x :: .ref 1001 :: st) = .int x :: .ref (ad0 1001) :: List.map (cv ad) st := by
    show Value.int x :: Value.ref (ad 1001) :: _ = _
    rw [ro_ad hR (by omega)]
  rw [e9]
  have hro := hC.2.2.2.2.2.2.2.2.2.2.2.1
  refine va_sld hC.1 hC.2.1 hro.2.2.1 hro.2.2.2.1 hro.2.2.2.2 hR.2.2.1 (by rw [hx]; exact vp_in_nI hj hg) hd ?_
  rw [hc]
  exact k p e R s m args below meth c D tc A ad0 n0 hC ad H locs ls hR
theorem j_salen (hd : decode μ.2.1 pc = .ok (.arraylength, 1)) (k : JW g μ Rc Qf (pc + 1) lv (.int (nI g.2.1) :: st) uc us Z I L) : JW g μ Rc Qf pc lv (.ref 1001 :: st) uc us Z I L := by
  intro p e R s m args below meth c D tc A ad0 n0 hC ad H locs ls hR
  have e9 : List.map (cv ad) (.ref 1001 :: st) = .ref (ad0 1001) :: List.map (cv ad) st := by
    show Value.ref (ad 1001) :: _ = _
    rw [ro_ad hR (by omega)]
  rw [e9]
  have hro := hC.2.2.2.2.2.2.2.2.2.2.2.1
  exact va_slen hC.1 hC.2.1 hro.2.2.1 hro.2.2.2.1 hro.2.2.2.2 hR.2.2.1 hd (k p e R s m args below meth c D tc A ad0 n0 hC ad H locs ls hR)
/-- System.arraycopy of a whole stretch -/
theorem j_copy {idx a b : Nat} {sp dp n : Int32} (sp' dp' n' : Nat) (hd : decode μ.2.1 pc = .ok (.invokestatic idx, 3)) (hw : Cond.methodLink μ.1.cls idx arraycopyName ∈ lw_tbl) (h1 : sp = nI sp') (h2 : dp = nI dp') (h3 : n = nI n') (hKa : zK Z a = 7) (hKb : zK Z b = 7) (ha9 : sp' + n' ≤ zL Z a) (hb9 : dp' + n' ≤ zL Z b) (hw2 : Cond.native arraycopyName ∈ lw_tbl) (hw3 : Cond.static arraycopyName ∈ lw_tbl) (hw4 : Cond.initialized "java/lang/System" ∈ lw_tbl) (k : JW g μ Rc Qf (pc + 3) lv st uc us Z (upR I b (va_cpy (I a) (I b) sp' dp' n')) L) (hfr : 1 ≤ Rc.frames := by exact Nat.le_of_ble_eq_true rfl) (hlo : 8 + (nativeFrameWords "java/lang/System" "arraycopy" 5 + 11) ≤ Rc.locals := by exact Nat.le_of_ble_eq_true rfl) (hst : (st.map (fun v => v.category)).sum ≤ 8 := by exact Nat.le_of_ble_eq_true rfl) : JW g μ Rc Qf pc lv (.int n :: .int dp :: .ref b :: .int sp :: .ref a :: st) uc us Z I L := by
  intro p e R s m args below meth c D tc A ad0 n0 hC ad H locs ls hR
  have ha := rl_lt hR hKa (by omega)
  have hb := rl_lt hR hKb (by omega)
  have hla := hR.2.2.2.2.1.2.1 a
  have hlb := hR.2.2.2.2.1.2.1 b
  have e1 : sp.toNatClampNeg = sp' := by rw [h1]; exact nI_clamp (by omega)
  have e2 : dp.toNatClampNeg = dp' := by rw [h2]; exact nI_clamp (by omega)
  have e3 : n.toNatClampNeg = n' := by rw [h3]; exact nI_clamp (by omega)
  have es : ((st.map (cv ad)).map (fun v => v.category)).sum = (st.map (fun v => v.category)).sum := by
    rw [List.map_map]; congr 1; exact List.map_congr_left (fun v _ => cv_cat ad v)
  obtain ⟨hx, hbc, hr, hml, hown, hts, hlk, hnm, hRc, hA, hK, hRO, hNW⟩ := id hC
  refine va_copyi (D := D) (ty := .int) hx hbc (by rw [hml, hR.2.2.2.1.1]) hown (hts _ (gin hw rfl)) (hts _ (gin hw2 rfl)) (hts _ (gin hw3 rfl)) (hts _ (gin hw4 rfl)) hK hR.1 hR.2.1 hR.2.2.1 a b 0 0 ((wS_get ha).trans (by rw [cE_i hKa])) ((wS_get hb).trans (by rw [cE_i hKb])) rfl rfl rfl (by rw [h1]; exact nI_pos (by omega)) (by rw [h2]; exact nI_pos (by omega)) (by rw [h3]; exact nI_pos (by omega)) (by rw [e1, e3]; exact ha9) (by rw [e2, e3]; exact hb9) (fun i _ => rfl) (by rw [hRc]; exact hfr) (by rw [hRc, es]; omega) hd (fun H1 locs1 hP hD hS => ?_)
  rw [e1, e2, e3] at hP hD
  have e9 : (wS tc ad Z I L).set b (ad b, .inl (tc.1, zL Z b, .inl (va_cpy (I a) (I b) sp' dp' n'))) = wS tc ad Z (upR I b (va_cpy (I a) (I b) sp' dp' n')) L := wS_set hb rfl (by rw [cE_i hKb, upR_s]) (fun q _ hne => cE_uI hne)
  rw [e9] at hP hD
  exact k p e R s m args below meth c D tc A ad0 n0 hC ad H1 locs1 ls ⟨hP, hD, hS, hR.2.2.2⟩
end JA
end
section
section JC
variable {g : GT} {μ : MT} {Rc : Room} {Qf : QF} {pc : Nat} {lv : List (Nat × Value)} {st : List Value} {uc us : Nat} {Z : ZT} {I : IT} {L : LT}
theorem st_room (ad : Nat → Nat) {st : List Value} (h : (st.map (fun v => v.category)).sum ≤ 8) : ((st.map (cv ad)).map (fun v => v.category)).sum ≤ 8 := by
  rw [List.map_map]
  rw [show (List.map ((fun v : Value => v.category) ∘ cv ad) st) = st.map (fun v => v.category) from List.map_congr_left (fun v _ => cv_cat ad v)]
  exact h
/-- the callee's start out of the caller's state -/
theorem pre_blind {g : GT} {D : va_G} {tc : TC} {ad : Nat → Nat} {Z : ZT} {I : IT} {L : LT} {sz : Nat} {av : List Value} {A : Nat → Prop} : FrameBlind (va_Pc av (fun U => U.heap.size = sz ∧ va_P D vwCl (wS tc ad Z I L) U.heap ∧ va_K D vwCl (tyS tc) U ∧ va_D (fun _ => True) (wS tc ad Z I L) ∧ pRO g ad A U U.heap ∧ pNW U)) := by
  intro a U gf mk q
  obtain ⟨q0, q1, qP, qK, qD, qR, qN⟩ := q
  exact ⟨q0, q1, qP, va_K.moved (u := U) (U := U.calling gf mk a) (Vm.Alike.refl U.vm) qK, qD, pRO.moved (u := U) (U := U.calling gf mk a) (Vm.Alike.refl U.vm) qR, pNW.same (s := U) (U := U.calling gf mk a) rfl qN⟩
theorem pre_at {p : Program} {R : Room} {s : State} {m : MethodId} {args : Array Value} {meth : Method} {c : Code} {D : va_G} {tc : TC} {A : Nat → Prop} {ad0 : Nat → Nat} {n0 : Nat} (hC : pCX g μ Rc p R s m args meth c D tc A ad0) {ad : Nat → Nat} {H : Heap} {locs : List Loc} {ls : Array Slot} (hR : pRL D tc A s μ.2.2.1 ad0 n0 uc lv Z I L ad H locs ls) (av : List Value) (U : State) (hU : U.heap = H) (hW : s.WarmedH U.vm) : va_Pc av (fun U => U.heap.size = H.size ∧ va_P D vwCl (wS tc ad Z I L) U.heap ∧ va_K D vwCl (tyS tc) U ∧ va_D (fun _ => True) (wS tc ad Z I L) ∧ pRO g ad (va_A (wS tc ad Z I L) H.size) U U.heap ∧ pNW U) av.toArray U := by
  have hro := hC.2.2.2.2.2.2.2.2.2.2.2.1
  have hfr : ∀ q, va_A (wS tc ad Z I L) H.size q → A q := by
    intro q h
    rcases h with ⟨k, e', h⟩ | h
    · exact hR.2.1.2 k (q, e') h
    · exact hC.2.2.2.2.2.2.2.2.2.1 q (Nat.le_trans hR.2.2.1.1 h)
  refine ⟨rfl, by rw [hU], by rw [hU]; exact hR.1, va_K.moved hW.alike hC.2.2.2.2.2.2.2.2.2.2.1, hR.2.1.weaken (fun _ _ _ _ => trivial), ?_, hC.2.2.2.2.2.2.2.2.2.2.2.2.warm hW⟩
  rw [hU]
  exact (((hro.go hR.2.2.1 hfr).moved hW.alike)).ad (fun a h => ro_ad hR h)
theorem mw_callB {s : State} {args : Array Value} {R : Room} {own : String} {idx d mc ms n : Nat} {μ' : MT} (hts : ∀ w ∈ gT, w.before args s = true) (hm : MW μ' n) (hl : (Cond.methodLink own idx μ'.1).before args s = true) (hfr : d + 1 ≤ R.frames) (hlo : 64 * d + 64 ≤ R.locals) : CallB R s args own idx μ'.1 μ'.2.1 μ'.2.2.1 μ'.2.2.2 (wM μ') (rmO d mc ms) mc ms n :=
  callB_of n hts (wM_good hm.1) rfl rfl rfl (hts _ (gin hm.2.1 rfl)) hl ⟨hm.2.2.1.1, hm.2.2.1.2, hm.2.2.2.1⟩ ⟨hfr, by have := hm.2.2.2.2; show 8 + (μ'.2.2.1 + 11) + 64 * d ≤ R.locals; omega⟩
set_option maxHeartbeats 1000000 in
theorem j_V {a idx ci n d mc ms : Nat} {μ' : MT} {as : List Value} {stk : List Value} (hd : decode μ.2.1 pc = .ok (.invokevirtual idx, 3)) (hk : lkV μ.1.cls idx μ' n ci) (hstk : stk = as.reverse ++ .ref a :: st) (hn : as.length = n) (hK : zK Z a = ci) (hrf : mc = 0 ∨ rfOK (zN Z) lv st) (hfr : d + 1 ≤ Rc.frames) (hlo : 64 * d + 64 ≤ Rc.locals) (hcl : uc + mc ≤ Rc.cells ∧ us + ms ≤ Rc.slots) (hst : (st.map (fun v => v.category)).sum ≤ 8)
    (hM : CM g d mc ms μ' (.ref a :: as) Z I L (fun r Z' I' L' => JW g μ Rc Qf (pc + 3) lv (r.toList ++ st) (uc + mc) (us + ms) Z' I' L')) : JW g μ Rc Qf pc lv stk uc us Z I L := by
  intro p e R s m args below meth c D tc A ad0 n0 hC ad H locs ls hR
  obtain ⟨hx, hb, hr, hml, hown, hts, hlk, hnm, hRc, hA, hKK, hRO, hNW⟩ := id hC
  obtain ⟨hm, hl, hi, hs, ⟨T, N, hcl9⟩, h7⟩ := hk
  have ha := rl_lt hR hK (by omega)
  subst hRc
  refine run_to hC hR hrf (ms := ms) (a9 := (Value.ref (ad a) :: as.map (cv ad)).toArray) ?_
  refine va_runV (C := μ'.1.cls) (b := ad a) (As := as.map (cv ad)) (rest := st.map (cv ad)) ⟨hx, hb, hml, hown, hts⟩ (hM D tc ad H.size hR.2.2.2.2.1) ⟨mw_callB hts hm (hts _ (gin hl rfl)) hfr hlo, hts _ (gin hi rfl), hts _ (gin hs rfl)⟩ ⟨pre_blind, va_recv hKK hR.1 (ci := ci) (q0 := a) hcl9 ((wS_get ha).trans (by rw [cE_o hK h7])), fun U hU hW => pre_at hC hR _ U hU hW⟩ rfl (by rw [List.length_map]; exact hn) hR.2.2.2.1.1 ?_ (lv_room (st_room ad hst)) hd hcl
  show stk.map (cv ad) = _
  rw [hstk, List.map_append, List.map_reverse]
  rfl
set_option maxHeartbeats 1000000 in
theorem j_S {idx n d mc ms : Nat} {μ' : MT} {as : List Value} {stk : List Value} (hd : decode μ.2.1 pc = .ok (.invokestatic idx, 3)) (hk : lkS μ.1.cls idx μ' n) (hstk : stk = as.reverse ++ st) (hn : as.length = n) (hrf : mc = 0 ∨ rfOK (zN Z) lv st) (hfr : d + 1 ≤ Rc.frames) (hlo : 64 * d + 64 ≤ Rc.locals) (hcl : uc + mc ≤ Rc.cells ∧ us + ms ≤ Rc.slots) (hst : (st.map (fun v => v.category)).sum ≤ 8)
    (hM : CM g d mc ms μ' as Z I L (fun r Z' I' L' => JW g μ Rc Qf (pc + 3) lv (r.toList ++ st) (uc + mc) (us + ms) Z' I' L')) : JW g μ Rc Qf pc lv stk uc us Z I L := by
  intro p e R s m args below meth c D tc A ad0 n0 hC ad H locs ls hR
  obtain ⟨hx, hb, hr, hml, hown, hts, hlk, hnm, hRc, hA, hKK, hRO, hNW⟩ := id hC
  obtain ⟨hm, hl, hs⟩ := hk
  subst hRc
  refine run_to hC hR hrf (ms := ms) (a9 := (as.map (cv ad)).toArray) ?_
  refine va_runS (As := as.map (cv ad)) (rest := st.map (cv ad)) ⟨hx, hb, hml, hown, hts⟩ (hM D tc ad H.size hR.2.2.2.2.1) ⟨mw_callB hts hm (hts _ (gin hl rfl)) hfr hlo, hts _ (gin hs rfl)⟩ ⟨pre_blind, fun U hU hW => pre_at hC hR _ U hU hW⟩ rfl (by rw [List.length_map]; exact hn) hR.2.2.2.1.1 ?_ (lv_room (st_room ad hst)) hd hcl
  show stk.map (cv ad) = _
  rw [hstk, List.map_append, List.map_reverse]
set_option maxHeartbeats 1000000 in
/-- a private static of a nest mate: SideWords.nextOffset, from Receiver -/
theorem j_N {n d mc ms : Nat} {μ' : MT} {as : List Value} {stk : List Value} (hcls : μ.1.cls = RX2) (hy : μ'.1 = yX5_nextOffset) (hd : decode μ.2.1 pc = .ok (.invokestatic 112, 3)) (hk : lkN μ.1.cls 112 μ' n) (hstk : stk = as.reverse ++ st) (hn : as.length = n) (hrf : mc = 0 ∨ rfOK (zN Z) lv st) (hfr : d + 1 ≤ Rc.frames) (hlo : 64 * d + 64 ≤ Rc.locals) (hcl : uc + mc ≤ Rc.cells ∧ us + ms ≤ Rc.slots) (hst : (st.map (fun v => v.category)).sum ≤ 8)
    (hM : CM g d mc ms μ' as Z I L (fun r Z' I' L' => JW g μ Rc Qf (pc + 3) lv (r.toList ++ st) (uc + mc) (us + ms) Z' I' L')) : JW g μ Rc Qf pc lv stk uc us Z I L := by
  intro p e R s m args below meth c D tc A ad0 n0 hC ad H locs ls hR
  obtain ⟨hx, hb, hr, hml, hown, hts, hlk, hnm, hRc, hA, hKK, hRO, hNW⟩ := id hC
  obtain ⟨hm, hl, hs⟩ := hk
  subst hRc
  have hnw : va_Nw (.methodLinkNest μ.1.cls 112 μ'.1 RX5) s := by rw [hcls, hy]; exact hNW.2.2.1
  refine run_to hC hR hrf (ms := ms) (a9 := (as.map (cv ad)).toArray) ?_
  refine va_runSN (host := RX5) (As := as.map (cv ad)) (rest := st.map (cv ad)) ⟨hx, hb, hml, hown, hts⟩ (hM D tc ad H.size hR.2.2.2.2.1) ⟨va_cnB n hts (wM_good hm.1) rfl rfl rfl hnw (hts _ (gin hm.2.1 rfl)) ⟨hm.2.2.1.1, hm.2.2.1.2, hm.2.2.2.1⟩ ⟨hfr, by have := hm.2.2.2.2; show 8 + (μ'.2.2.1 + 11) + 64 * d ≤ R.locals; omega⟩, hts _ (gin hs rfl), trivial⟩ ⟨pre_blind, fun U hU hW => pre_at hC hR _ U hU hW⟩ rfl (by rw [List.length_map]; exact hn) hR.2.2.2.1.1 ?_ (lv_room (st_room ad hst)) hd hcl
  show stk.map (cv ad) = _
  rw [hstk, List.map_append, List.map_reverse]
set_option maxHeartbeats 1000000 in
theorem j_I {a idx n d mc ms : Nat} {μ' : MT} {as : List Value} {stk : List Value} (hd : decode μ.2.1 pc = .ok (.invokespecial idx, 3)) (hk : lkI μ.1.cls idx μ' n) (hstk : stk = as.reverse ++ .ref a :: st) (hn : as.length = n) (hrf : mc = 0 ∨ rfOK (zN Z) lv st) (hfr : d + 1 ≤ Rc.frames) (hlo : 64 * d + 64 ≤ Rc.locals) (hcl : uc + mc ≤ Rc.cells ∧ us + ms ≤ Rc.slots) (hst : (st.map (fun v => v.category)).sum ≤ 8)
    (hM : CM g d mc ms μ' (.ref a :: as) Z I L (fun r Z' I' L' => JW g μ Rc Qf (pc + 3) lv (r.toList ++ st) (uc + mc) (us + ms) Z' I' L')) : JW g μ Rc Qf pc lv stk uc us Z I L := by
  intro p e R s m args below meth c D tc A ad0 n0 hC ad H locs ls hR
  obtain ⟨hx, hb, hr, hml, hown, hts, hlk, hnm, hRc, hA, hKK, hRO, hNW⟩ := id hC
  obtain ⟨hm, hl, hi, hnm9, hret⟩ := hk
  subst hRc
  have hcb := mw_callB (R := R) (mc := mc) (ms := ms) hts hm (hts _ (gin hl rfl)) hfr hlo
  rw [hret] at hcb
  refine run_to hC hR hrf (ms := ms) (a9 := (Value.ref (ad a) :: as.map (cv ad)).toArray) ?_
  refine va_runI (b := ad a) (As := as.map (cv ad)) (rest := st.map (cv ad)) ⟨hx, hb, hml, hown, hts⟩ (hM D tc ad H.size hR.2.2.2.2.1) ⟨hcb, hnm9, hts _ (gin hi rfl)⟩ ⟨pre_blind, fun U hU hW => pre_at hC hR _ U hU hW⟩ rfl (by rw [List.length_map]; exact hn) hR.2.2.2.1.1 ?_ (lv_room (st_room ad hst)) hd hcl
  show stk.map (cv ad) = _
  rw [hstk, List.map_append, List.map_reverse]
  rfl
set_option maxHeartbeats 1000000 in
/-- a nest mate's private constructor -/
theorem j_X {a idx n d mc ms : Nat} {μ' : MT} {as : List Value} {stk : List Value} (hy : (μ.1.cls = RX5 ∧ idx = 9 ∧ μ'.1 = yX4_init) ∨ (μ.1.cls = RX2 ∧ idx = 11 ∧ μ'.1 = yX3_init)) (hd : decode μ.2.1 pc = .ok (.invokespecial idx, 3)) (hk : lkX μ.1.cls idx μ' n) (hstk : stk = as.reverse ++ .ref a :: st) (hn : as.length = n) (hrf : mc = 0 ∨ rfOK (zN Z) lv st) (hfr : d + 1 ≤ Rc.frames) (hlo : 64 * d + 64 ≤ Rc.locals) (hcl : uc + mc ≤ Rc.cells ∧ us + ms ≤ Rc.slots) (hst : (st.map (fun v => v.category)).sum ≤ 8)
    (hM : CM g d mc ms μ' (.ref a :: as) Z I L (fun r Z' I' L' => JW g μ Rc Qf (pc + 3) lv (r.toList ++ st) (uc + mc) (us + ms) Z' I' L')) : JW g μ Rc Qf pc lv stk uc us Z I L := by
  intro p e R s m args below meth c D tc A ad0 n0 hC ad H locs ls hR
  obtain ⟨hx, hb, hr, hml, hown, hts, hlk, hnm, hRc, hA, hKK, hRO, hNW⟩ := id hC
  obtain ⟨hm, hl, hi, hnm9, hret⟩ := hk
  subst hRc
  have hnw : va_Nw (.methodLinkNest μ.1.cls idx μ'.1 RX5) s := by
    rcases hy with ⟨h1, h2, h3⟩ | ⟨h1, h2, h3⟩
    · rw [h1, h2, h3]; exact hNW.1
    · rw [h1, h2, h3]; exact hNW.2.1
  have hcb : va_CN R s args μ.1.cls idx μ'.1 RX5 μ'.2.1 μ'.2.2.1 μ'.2.2.2 (wM μ') (rmO d mc ms) mc ms n := va_cnB n hts (wM_good hm.1) rfl rfl rfl hnw (hts _ (gin hm.2.1 rfl)) ⟨hm.2.2.1.1, hm.2.2.1.2, hm.2.2.2.1⟩ ⟨hfr, by have := hm.2.2.2.2; show 8 + (μ'.2.2.1 + 11) + 64 * d ≤ R.locals; omega⟩
  rw [hret] at hcb
  refine run_to hC hR hrf (ms := ms) (a9 := (Value.ref (ad a) :: as.map (cv ad)).toArray) ?_
  refine va_runIN (host := RX5) (b := ad a) (As := as.map (cv ad)) (rest := st.map (cv ad)) ⟨hx, hb, hml, hown, hts⟩ (hM D tc ad H.size hR.2.2.2.2.1) ⟨hcb, hnm9, hts _ (gin hi rfl)⟩ ⟨pre_blind, fun U hU hW => pre_at hC hR _ U hU hW⟩ rfl (by rw [List.length_map]; exact hn) hR.2.2.2.1.1 ?_ (lv_room (st_room ad hst)) hd hcl
  show stk.map (cv ad) = _
  rw [hstk, List.map_append, List.map_reverse]
  rfl
end JC
end
section
section JE
variable {g : GT} {μ : MT} {Rc : Room} {Qf : QF} {pc : Nat} {lv : List (Nat × Value)} {st : List Value} {uc us : Nat} {Z : ZT} {I : IT} {L : LT} {Post : PT} {mc ms : Nat}
theorem qc_at {D : va_G} {tc : TC} {A : Nat → Prop} {s : State} {nL : Nat} {ad0 : Nat → Nat} {n0 : Nat} {ad : Nat → Nat} {H : Heap} {locs : List Loc} {ls : Array Slot} {args : Array Value} (hR : pRL D tc A s nL ad0 n0 uc lv Z I L ad H locs ls) {r : Option Value} (hp : Post r Z I L) (hu : uc ≤ mc) (t : State) (ht : t.heap = H) : QC D tc A ad0 n0 mc Post args s (.returned (r.map (cv ad))) t := by
  refine ⟨⟨r, Z, I, L, ad, rfl, hp, hR.2.2.2.2.1, hR.2.2.2.2.2.1, Nat.le_trans hR.2.2.2.2.2.2.1 (by omega), hR.2.2.2.2.2.2.2, by rw [ht]; exact hR.1, hR.2.1⟩, hR.2.2.1.F ht⟩
theorem j_iret {x : Int32} (hd : decode μ.2.1 pc = .ok (.ireturn, 1)) (hp : Post (some (.int x)) Z I L) (hr9 : μ.2.2.2 = some .int := by rfl) (hu : uc ≤ mc := by exact Nat.le_of_ble_eq_true rfl) (hs : us ≤ ms := by exact Nat.le_of_ble_eq_true rfl) : JW g μ Rc (QM Post mc ms) pc lv [.int x] uc us Z I L := by
  intro p e R s m args below meth c D tc A ad0 n0 hC ad H locs ls hR
  refine W.widen hu hs ?_
  exact W.iret hC.1 hC.2.1 (hC.2.2.1.trans hr9) (fun t ht hW => qc_at hR hp hu t ht) hR.2.2.1.2.2 hd hC.2.2.2.2.2.2.1
theorem j_zret {x : Int32} (hd : decode μ.2.1 pc = .ok (.ireturn, 1)) (hx : x = 0 ∨ x = 1) (hp : Post (some (.int x)) Z I L) (hr9 : μ.2.2.2 = some .boolean := by rfl) (hu : uc ≤ mc := by exact Nat.le_of_ble_eq_true rfl) (hs : us ≤ ms := by exact Nat.le_of_ble_eq_true rfl) : JW g μ Rc (QM Post mc ms) pc lv [.int x] uc us Z I L := by
  intro p e R s m args below meth c D tc A ad0 n0 hC ad H locs ls hR
  refine W.widen hu hs ?_
  exact W.zret (ty := .boolean) hC.1 hC.2.1 (hC.2.2.1.trans hr9) (nar_bool hx) (fun t ht hW => qc_at hR hp hu t ht) hR.2.2.1.2.2 hd hC.2.2.2.2.2.2.1
theorem j_lret {x : Int64} (hd : decode μ.2.1 pc = .ok (.lreturn, 1)) (hp : Post (some (.long x)) Z I L) (hr9 : μ.2.2.2 = some .long := by rfl) (hu : uc ≤ mc := by exact Nat.le_of_ble_eq_true rfl) (hs : us ≤ ms := by exact Nat.le_of_ble_eq_true rfl) : JW g μ Rc (QM Post mc ms) pc lv [.long x] uc us Z I L := by
  intro p e R s m args below meth c D tc A ad0 n0 hC ad H locs ls hR
  refine W.widen hu hs ?_
  exact W.lret hC.1 hC.2.1 (hC.2.2.1.trans hr9) (fun t ht hW => qc_at hR hp hu t ht) hR.2.2.1.2.2 hd hC.2.2.2.2.2.2.1
theorem j_vret (hd : decode μ.2.1 pc = .ok (.return_, 1)) (hp : Post none Z I L) (hr9 : μ.2.2.2 = none := by rfl) (hu : uc ≤ mc := by exact Nat.le_of_ble_eq_true rfl) (hs : us ≤ ms := by exact Nat.le_of_ble_eq_true rfl) : JW g μ Rc (QM Post mc ms) pc lv [] uc us Z I L := by
  intro p e R s m args below meth c D tc A ad0 n0 hC ad H locs ls hR
  refine W.widen hu hs ?_
  exact W.vret hC.1 hC.2.1 (hC.2.2.1.trans hr9) (fun t ht hW => qc_at hR hp hu t ht) hR.2.2.1.2.2 hd hC.2.2.2.2.2.2.1
theorem j_aret {a : Nat} (hd : decode μ.2.1 pc = .ok (.areturn, 1)) (hp : Post (some (.ref a)) Z I L) (hr9 : μ.2.2.2 = some (.object RX2) := by rfl) (hu : uc ≤ mc := by exact Nat.le_of_ble_eq_true rfl) (hs : us ≤ ms := by exact Nat.le_of_ble_eq_true rfl) : JW g μ Rc (QM Post mc ms) pc lv [.ref a] uc us Z I L := by
  intro p e R s m args below meth c D tc A ad0 n0 hC ad H locs ls hR
  refine W.widen hu hs ?_
  exact W.aret (v := .ref (ad a)) hC.1 hC.2.1 (hC.2.2.1.trans hr9) (Or.inl ⟨_, rfl⟩) (Or.inr ⟨_, rfl⟩) (fun t ht hW => qc_at hR hp hu t ht) hR.2.2.1.2.2 hd hC.2.2.2.2.2.2.1
/-- Math -/
theorem j_mmax {idx : Nat} {x y : Int32} (hd : decode μ.2.1 pc = .ok (.invokestatic idx, 3)) (hw : lkS μ.1.cls idx mJ9_max_7cf53 2) (k : JW g μ Rc Qf (pc + 3) lv (.int (if x < y then y else x) :: st) uc us Z I L) (hfr : 1 ≤ Rc.frames := by exact Nat.le_of_ble_eq_true rfl) (hlo : 21 ≤ Rc.locals := by exact Nat.le_of_ble_eq_true rfl) (hu : uc ≤ Rc.cells := by exact Nat.le_of_ble_eq_true rfl) (hs : us ≤ Rc.slots := by exact Nat.le_of_ble_eq_true rfl) (hst : (st.map (fun v => v.category)).sum ≤ 8 := by exact Nat.le_of_ble_eq_true rfl) : JW g μ Rc Qf pc lv (.int y :: .int x :: st) uc us Z I L := by
  intro p e R s m args below meth c D tc A ad0 n0 hC ad H locs ls hR
  obtain ⟨hx, hb, hr, hml, hown, hts, hlk, hnm, hRc, hA, hKK, hRO, hNW⟩ := id hC
  subst hRc
  exact va_mmax hx hb (by rw [hml, hR.2.2.2.1.1]) hown (hts _ (gin hw.2.1 rfl)) (hts _ (gin hw.2.2 rfl)) (hts _ (gin hw.1.2.1 rfl)) (hts _ (gin hw.1.1 rfl)) hfr (by have := st_room ad hst; omega) hu hs hd (k p e R s m args below meth c D tc A ad0 n0 hC ad H locs ls hR)
theorem j_mmin {idx : Nat} {x y : Int32} (hd : decode μ.2.1 pc = .ok (.invokestatic idx, 3)) (hw : lkS μ.1.cls idx mJ9_min_7cf53 2) (k : JW g μ Rc Qf (pc + 3) lv (.int (if y < x then y else x) :: st) uc us Z I L) (hfr : 1 ≤ Rc.frames := by exact Nat.le_of_ble_eq_true rfl) (hlo : 21 ≤ Rc.locals := by exact Nat.le_of_ble_eq_true rfl) (hu : uc ≤ Rc.cells := by exact Nat.le_of_ble_eq_true rfl) (hs : us ≤ Rc.slots := by exact Nat.le_of_ble_eq_true rfl) (hst : (st.map (fun v => v.category)).sum ≤ 8 := by exact Nat.le_of_ble_eq_true rfl) : JW g μ Rc Qf pc lv (.int y :: .int x :: st) uc us Z I L := by
  intro p e R s m args below meth c D tc A ad0 n0 hC ad H locs ls hR
  obtain ⟨hx, hb, hr, hml, hown, hts, hlk, hnm, hRc, hA, hKK, hRO, hNW⟩ := id hC
  subst hRc
  exact va_mmin hx hb (by rw [hml, hR.2.2.2.1.1]) hown (hts _ (gin hw.2.1 rfl)) (hts _ (gin hw.2.2 rfl)) (hts _ (gin hw.1.2.1 rfl)) (hts _ (gin hw.1.1 rfl)) hfr (by have := st_room ad hst; omega) hu hs hd (k p e R s m args below meth c D tc A ad0 n0 hC ad H locs ls hR)
theorem j_mabs {idx : Nat} {x : Int32} (hd : decode μ.2.1 pc = .ok (.invokestatic idx, 3)) (hw : lkS μ.1.cls idx mJ9_abs_0f7a4 1) (k : JW g μ Rc Qf (pc + 3) lv (.int (if 0 ≤ x then x else 0 - x) :: st) uc us Z I L) (hfr : 1 ≤ Rc.frames := by exact Nat.le_of_ble_eq_true rfl) (hlo : 21 ≤ Rc.locals := by exact Nat.le_of_ble_eq_true rfl) (hu : uc ≤ Rc.cells := by exact Nat.le_of_ble_eq_true rfl) (hs : us ≤ Rc.slots := by exact Nat.le_of_ble_eq_true rfl) (hst : (st.map (fun v => v.category)).sum ≤ 8 := by exact Nat.le_of_ble_eq_true rfl) : JW g μ Rc Qf pc lv (.int x :: st) uc us Z I L := by
  intro p e R s m args below meth c D tc A ad0 n0 hC ad H locs ls hR
  obtain ⟨hx, hb, hr, hml, hown, hts, hlk, hnm, hRc, hA, hKK, hRO, hNW⟩ := id hC
  subst hRc
  exact va_mabs hx hb (by rw [hml, hR.2.2.2.1.1]) hown (hts _ (gin hw.2.1 rfl)) (hts _ (gin hw.2.2 rfl)) (hts _ (gin hw.1.2.1 rfl)) (hts _ (gin hw.1.1 rfl)) hfr (by have := st_room ad hst; omega) hu hs hd (k p e R s m args below meth c D tc A ad0 n0 hC ad H locs ls hR)
/-- calls that make nothing, by the number of arguments -/
theorem j_V0 {a idx ci d : Nat} {μ' : MT} (hd : decode μ.2.1 pc = .ok (.invokevirtual idx, 3)) (hk : lkV μ.1.cls idx μ' 0 ci) (hK : zK Z a = ci) (hM : CM g d 0 0 μ' [.ref a] Z I L (fun r Z' I' L' => JW g μ Rc Qf (pc + 3) lv (r.toList ++ st) uc us Z' I' L')) (hfr : d + 1 ≤ Rc.frames := by exact Nat.le_of_ble_eq_true rfl) (hlo : 64 * d + 64 ≤ Rc.locals := by exact Nat.le_of_ble_eq_true rfl) (hcl : uc ≤ Rc.cells ∧ us ≤ Rc.slots := by exact ⟨Nat.le_of_ble_eq_true rfl, Nat.le_of_ble_eq_true rfl⟩) (hst : (st.map (fun v => v.category)).sum ≤ 8 := by exact Nat.le_of_ble_eq_true rfl) : JW g μ Rc Qf pc lv (.ref a :: st) uc us Z I L := j_V hd hk (as := []) rfl rfl hK (Or.inl rfl) hfr hlo hcl hst hM
theorem j_V1 {a idx ci d : Nat} {μ' : MT} {x : Value} (hd : decode μ.2.1 pc = .ok (.invokevirtual idx, 3)) (hk : lkV μ.1.cls idx μ' 1 ci) (hK : zK Z a = ci) (hM : CM g d 0 0 μ' [.ref a, x] Z I L (fun r Z' I' L' => JW g μ Rc Qf (pc + 3) lv (r.toList ++ st) uc us Z' I' L')) (hfr : d + 1 ≤ Rc.frames := by exact Nat.le_of_ble_eq_true rfl) (hlo : 64 * d + 64 ≤ Rc.locals := by exact Nat.le_of_ble_eq_true rfl) (hcl : uc ≤ Rc.cells ∧ us ≤ Rc.slots := by exact ⟨Nat.le_of_ble_eq_true rfl, Nat.le_of_ble_eq_true rfl⟩) (hst : (st.map (fun v => v.category)).sum ≤ 8 := by exact Nat.le_of_ble_eq_true rfl) : JW g μ Rc Qf pc lv (x :: .ref a :: st) uc us Z I L := j_V hd hk (as := [x]) rfl rfl hK (Or.inl rfl) hfr hlo hcl hst hM
theorem j_V2 {a idx ci d : Nat} {μ' : MT} {x y : Value} (hd : decode μ.2.1 pc = .ok (.invokevirtual idx, 3)) (hk : lkV μ.1.cls idx μ' 2 ci) (hK : zK Z a = ci) (hM : CM g d 0 0 μ' [.ref a, x, y] Z I L (fun r Z' I' L' => JW g μ Rc Qf (pc + 3) lv (r.toList ++ st) uc us Z' I' L')) (hfr : d + 1 ≤ Rc.frames := by exact Nat.le_of_ble_eq_true rfl) (hlo : 64 * d + 64 ≤ Rc.locals := by exact Nat.le_of_ble_eq_true rfl) (hcl : uc ≤ Rc.cells ∧ us ≤ Rc.slots := by exact ⟨Nat.le_of_ble_eq_true rfl, Nat.le_of_ble_eq_true rfl⟩) (hst : (st.map (fun v => v.category)).sum ≤ 8 := by exact Nat.le_of_ble_eq_true rfl) : JW g μ Rc Qf pc lv (y :: x :: .ref a :: st) uc us Z I L := j_V hd hk (as := [x, y]) rfl rfl hK (Or.inl rfl) hfr hlo hcl hst hM
theorem j_V3 {a idx ci d : Nat} {μ' : MT} {x y z : Value} (hd : decode μ.2.1 pc = .ok (.invokevirtual idx, 3)) (hk : lkV μ.1.cls idx μ' 3 ci) (hK : zK Z a = ci) (hM : CM g d 0 0 μ' [.ref a, x, y, z] Z I L (fun r Z' I' L' => JW g μ Rc Qf (pc + 3) lv (r.toList ++ st) uc us Z' I' L')) (hfr : d + 1 ≤ Rc.frames := by exact Nat.le_of_ble_eq_true rfl) (hlo : 64 * d + 64 ≤ Rc.locals := by exact Nat.le_of_ble_eq_true rfl) (hcl : uc ≤ Rc.cells ∧ us ≤ Rc.slots := by exact ⟨Nat.le_of_ble_eq_true rfl, Nat.le_of_ble_eq_true rfl⟩) (hst : (st.map (fun v => v.category)).sum ≤ 8 := by exact Nat.le_of_ble_eq_true rfl) : JW g μ Rc Qf pc lv (z :: y :: x :: .ref a :: st) uc us Z I L := j_V hd hk (as := [x, y, z]) rfl rfl hK (Or.inl rfl) hfr hlo hcl hst hM
theorem j_V4 {a idx ci d : Nat} {μ' : MT} {x y z w : Value} (hd : decode μ.2.1 pc = .ok (.invokevirtual idx, 3)) (hk : lkV μ.1.cls idx μ' 4 ci) (hK : zK Z a = ci) (hM : CM g d 0 0 μ' [.ref a, x, y, z, w] Z I L (fun r Z' I' L' => JW g μ Rc Qf (pc + 3) lv (r.toList ++ st) uc us Z' I' L')) (hfr : d + 1 ≤ Rc.frames := by exact Nat.le_of_ble_eq_true rfl) (hlo : 64 * d + 64 ≤ Rc.locals := by exact Nat.le_of_ble_eq_true rfl) (hcl : uc ≤ Rc.cells ∧ us ≤ Rc.slots := by exact ⟨Nat.le_of_ble_eq_true rfl, Nat.le_of_ble_eq_true rfl⟩) (hst : (st.map (fun v => v.category)).sum ≤ 8 := by exact Nat.le_of_ble_eq_true rfl) : JW g μ Rc Qf pc lv (w :: z :: y :: x :: .ref a :: st) uc us Z I L := j_V hd hk (as := [x, y, z, w]) rfl rfl hK (Or.inl rfl) hfr hlo hcl hst hM
theorem j_S1 {idx d : Nat} {μ' : MT} {x : Value} (hd : decode μ.2.1 pc = .ok (.invokestatic idx, 3)) (hk : lkS μ.1.cls idx μ' 1) (hM : CM g d 0 0 μ' [x] Z I L (fun r Z' I' L' => JW g μ Rc Qf (pc + 3) lv (r.toList ++ st) uc us Z' I' L')) (hfr : d + 1 ≤ Rc.frames := by exact Nat.le_of_ble_eq_true rfl) (hlo : 64 * d + 64 ≤ Rc.locals := by exact Nat.le_of_ble_eq_true rfl) (hcl : uc ≤ Rc.cells ∧ us ≤ Rc.slots := by exact ⟨Nat.le_of_ble_eq_true rfl, Nat.le_of_ble_eq_true rfl⟩) (hst : (st.map (fun v => v.category)).sum ≤ 8 := by exact Nat.le_of_ble_eq_true rfl) : JW g μ Rc Qf pc lv (x :: st) uc us Z I L := j_S hd hk (as := [x]) rfl rfl (Or.inl rfl) hfr hlo hcl hst hM
theorem j_S2 {idx d : Nat} {μ' : MT} {x y : Value} (hd : decode μ.2.1 pc = .ok (.invokestatic idx, 3)) (hk : lkS μ.1.cls idx μ' 2) (hM : CM g d 0 0 μ' [x, y] Z I L (fun r Z' I' L' => JW g μ Rc Qf (pc + 3) lv (r.toList ++ st) uc us Z' I' L')) (hfr : d + 1 ≤ Rc.frames := by exact Nat.le_of_ble_eq_true rfl) (hlo : 64 * d + 64 ≤ Rc.locals := by exact Nat.le_of_ble_eq_true rfl) (hcl : uc ≤ Rc.cells ∧ us ≤ Rc.slots := by exact ⟨Nat.le_of_ble_eq_true rfl, Nat.le_of_ble_eq_true rfl⟩) (hst : (st.map (fun v => v.category)).sum ≤ 8 := by exact Nat.le_of_ble_eq_true rfl) : JW g μ Rc Qf pc lv (y :: x :: st) uc us Z I L := j_S hd hk (as := [x, y]) rfl rfl (Or.inl rfl) hfr hlo hcl hst hM
theorem j_S3 {idx d : Nat} {μ' : MT} {x y z : Value} (hd : decode μ.2.1 pc = .ok (.invokestatic idx, 3)) (hk : lkS μ.1.cls idx μ' 3) (hM : CM g d 0 0 μ' [x, y, z] Z I L (fun r Z' I' L' => JW g μ Rc Qf (pc + 3) lv (r.toList ++ st) uc us Z' I' L')) (hfr : d + 1 ≤ Rc.frames := by exact Nat.le_of_ble_eq_true rfl) (hlo : 64 * d + 64 ≤ Rc.locals := by exact Nat.le_of_ble_eq_true rfl) (hcl : uc ≤ Rc.cells ∧ us ≤ Rc.slots := by exact ⟨Nat.le_of_ble_eq_true rfl, Nat.le_of_ble_eq_true rfl⟩) (hst : (st.map (fun v => v.category)).sum ≤ 8 := by exact Nat.le_of_ble_eq_true rfl) : JW g μ Rc Qf pc lv (z :: y :: x :: st) uc us Z I L := j_S hd hk (as := [x, y, z]) rfl rfl (Or.inl rfl) hfr hlo hcl hst hM
theorem j_S5 {idx d : Nat} {μ' : MT} {x y z w v : Value} (hd : decode μ.2.1 pc = .ok (.invokestatic idx, 3)) (hk : lkS μ.1.cls idx μ' 5) (hM : CM g d 0 0 μ' [x, y, z, w, v] Z I L (fun r Z' I' L' => JW g μ Rc Qf (pc + 3) lv (r.toList ++ st) uc us Z' I' L')) (hfr : d + 1 ≤ Rc.frames := by exact Nat.le_of_ble_eq_true rfl) (hlo : 64 * d + 64 ≤ Rc.locals := by exact Nat.le_of_ble_eq_true rfl) (hcl : uc ≤ Rc.cells ∧ us ≤ Rc.slots := by exact ⟨Nat.le_of_ble_eq_true rfl, Nat.le_of_ble_eq_true rfl⟩) (hst : (st.map (fun v => v.category)).sum ≤ 8 := by exact Nat.le_of_ble_eq_true rfl) : JW g μ Rc Qf pc lv (v :: w :: z :: y :: x :: st) uc us Z I L := j_S hd hk (as := [x, y, z, w, v]) rfl rfl (Or.inl rfl) hfr hlo hcl hst hM
theorem j_S6 {idx d : Nat} {μ' : MT} {x y z w v u : Value} (hd : decode μ.2.1 pc = .ok (.invokestatic idx, 3)) (hk : lkS μ.1.cls idx μ' 6) (hM : CM g d 0 0 μ' [x, y, z, w, v, u] Z I L (fun r Z' I' L' => JW g μ Rc Qf (pc + 3) lv (r.toList ++ st) uc us Z' I' L')) (hfr : d + 1 ≤ Rc.frames := by exact Nat.le_of_ble_eq_true rfl) (hlo : 64 * d + 64 ≤ Rc.locals := by exact Nat.le_of_ble_eq_true rfl) (hcl : uc ≤ Rc.cells ∧ us ≤ Rc.slots := by exact ⟨Nat.le_of_ble_eq_true rfl, Nat.le_of_ble_eq_true rfl⟩) (hst : (st.map (fun v => v.category)).sum ≤ 8 := by exact Nat.le_of_ble_eq_true rfl) : JW g μ Rc Qf pc lv (u :: v :: w :: z :: y :: x :: st) uc us Z I L := j_S hd hk (as := [x, y, z, w, v, u]) rfl rfl (Or.inl rfl) hfr hlo hcl hst hM
theorem j_N1 {d : Nat} {μ' : MT} {x : Value} (hcls : μ.1.cls = RX2) (hy : μ'.1 = yX5_nextOffset) (hd : decode μ.2.1 pc = .ok (.invokestatic 112, 3)) (hk : lkN μ.1.cls 112 μ' 1) (hM : CM g d 0 0 μ' [x] Z I L (fun r Z' I' L' => JW g μ Rc Qf (pc + 3) lv (r.toList ++ st) uc us Z' I' L')) (hfr : d + 1 ≤ Rc.frames := by exact Nat.le_of_ble_eq_true rfl) (hlo : 64 * d + 64 ≤ Rc.locals := by exact Nat.le_of_ble_eq_true rfl) (hcl : uc ≤ Rc.cells ∧ us ≤ Rc.slots := by exact ⟨Nat.le_of_ble_eq_true rfl, Nat.le_of_ble_eq_true rfl⟩) (hst : (st.map (fun v => v.category)).sum ≤ 8 := by exact Nat.le_of_ble_eq_true rfl) : JW g μ Rc Qf pc lv (x :: st) uc us Z I L := j_N hcls hy hd hk (as := [x]) rfl rfl (Or.inl rfl) hfr hlo hcl hst hM
end JE
end
section
/-! WHAT IS COMPUTED: the reference's functions, on numbers and rows -/
def lfS (g k n : Nat) : Nat := if n.testBit k then n ^^^ ((64 ||| g) <<< (k - 6)) else n
def lfL (g : Nat) : Nat → Nat → Nat
  | 0, n => n
  | j + 1, n => lfL g j (lfS g (j + 6) n)
/-- the rest of a number of 14 bits -/
def lfN (g n : Nat) : Nat := lfL g 8 n
theorem lt_bits {n k : Nat} (h : ∀ i, k ≤ i → n.testBit i = false) : n < 2 ^ k := Nat.lt_pow_two_of_testBit n (fun i hi => h i hi)
theorem bits_lt {n k i : Nat} (h : n < 2 ^ k) (hi : k ≤ i) : n.testBit i = false := Nat.testBit_lt_two_pow (Nat.lt_of_lt_of_le h (Nat.pow_le_pow_right (by decide) hi))
theorem og_bits {g : Nat} (hg : g < 64) (i : Nat) (hi : 6 ≤ i) : (64 ||| g).testBit i = decide (i = 6) := by
  rw [Nat.testBit_or, bits_lt (show g < 2 ^ 6 from hg) hi, Bool.or_false, show (64 : Nat) = 2 ^ 6 from rfl, Nat.testBit_two_pow]
  by_cases h : i = 6
  · subst h; rfl
  · simp [h, Ne.symm h]
theorem lfS_lt {g k n : Nat} (hg : g < 64) (hk : 6 ≤ k) (hn : n < 2 ^ (k + 1)) : lfS g k n < 2 ^ k := by
  refine lt_bits (fun i hi => ?_)
  unfold lfS
  split
  · rename_i hb
    rw [Nat.testBit_xor, Nat.testBit_shiftLeft, og_bits hg _ (by omega)]
    by_cases hik : i = k
    · subst hik
      rw [hb]
      have : i - (i - 6) = 6 := by omega
      simp [this]
    · rw [bits_lt hn (by omega)]
      have : ¬ (i - (k - 6) = 6) := by omega
      simp [this]
  · rename_i hb
    by_cases hik : i = k
    · subst hik; simpa using hb
    · exact bits_lt hn (by omega)
theorem lfL_lt {g : Nat} (hg : g < 64) : ∀ (j n : Nat), n < 2 ^ (j + 6) → lfL g j n < 64
  | 0, n, h => h
  | j + 1, n, h => lfL_lt hg j _ (lfS_lt hg (by omega) (by rw [show j + 6 + 1 = j + 1 + 6 by omega]; exact h))
theorem lfN_lt {g n : Nat} (hg : g < 64) (hn : n < 16384) : lfN g n < 64 := lfL_lt hg 8 n hn
theorem lfS_xor (g k a b : Nat) : lfS g k (a ^^^ b) = lfS g k a ^^^ lfS g k b := by
  unfold lfS
  rw [Nat.testBit_xor]
  cases a.testBit k <;> cases b.testBit k <;> simp only [Bool.xor_true, Bool.xor_false, Bool.true_xor, Bool.false_xor, Bool.not_true, Bool.not_false, if_true, if_false, Bool.false_eq_true]
  · rw [Nat.xor_assoc]
  · rw [Nat.xor_assoc, Nat.xor_assoc, Nat.xor_comm b]
  · rw [show a ^^^ (64 ||| g) <<< (k - 6) ^^^ (b ^^^ (64 ||| g) <<< (k - 6)) = a ^^^ b ^^^ (((64 ||| g) <<< (k - 6)) ^^^ ((64 ||| g) <<< (k - 6))) by ac_rfl, Nat.xor_self, Nat.xor_zero]
theorem lfL_xor (g : Nat) : ∀ (j a b : Nat), lfL g j (a ^^^ b) = lfL g j a ^^^ lfL g j b
  | 0, _, _ => rfl
  | j + 1, a, b => by show lfL g j (lfS g (j + 6) (a ^^^ b)) = _; rw [lfS_xor, lfL_xor g j]; rfl
theorem lfN_xor (g a b : Nat) : lfN g (a ^^^ b) = lfN g a ^^^ lfN g b := lfL_xor g 8 a b
theorem lfL_id (g : Nat) : ∀ (j n : Nat), n < 64 → lfL g j n = n
  | 0, _, _ => rfl
  | j + 1, n, h => by
    show lfL g j (lfS g (j + 6) n) = n
    have : lfS g (j + 6) n = n := by unfold lfS; rw [bits_lt (show n < 2 ^ 6 from h) (by omega)]; rfl
    rw [this, lfL_id g j n h]
theorem lfN_id (g : Nat) {n : Nat} (h : n < 64) : lfN g n = n := lfL_id g 8 n h
theorem split6 {w : Nat} : w = (64 * (w / 64)) ^^^ (w % 64) := by
  apply Nat.eq_of_testBit_eq
  intro i
  rw [Nat.testBit_xor, show (64 : Nat) * (w / 64) = (w / 2 ^ 6) * 2 ^ 6 by omega, Nat.testBit_mul_two_pow, Nat.testBit_div_two_pow, show (64 : Nat) = 2 ^ 6 from rfl, Nat.testBit_mod_two_pow]
  by_cases h : i < 6
  · simp [h, Nat.not_le.mpr h]
  · have h2 : 6 ≤ i := by omega
    simp [h, h2, show i - 6 + 6 = i by omega]
theorem lfN_split (g : Nat) {w : Nat} : lfN g w = lfN g (64 * (w / 64)) ^^^ (w % 64) := by
  conv => lhs; rw [split6 (w := w)]
  rw [lfN_xor, lfN_id g (Nat.mod_lt _ (by decide))]
/-- the row of rests, one out of half its place -/
def drN (g d r : Nat) : Nat := if d % 2 = 1 then (if 63 < 2 * r then (2 * r ^^^ g) % 64 else 2 * r) ^^^ g else (if 63 < 2 * r then (2 * r ^^^ g) % 64 else 2 * r)
theorem drN_all : (List.range 32).all (fun g2 => (List.range 255).all (fun d1 => lfN (2 * g2 + 1) (64 * (d1 + 1)) == drN (2 * g2 + 1) (d1 + 1) (lfN (2 * g2 + 1) (64 * ((d1 + 1) / 2))))) = true := by decide +kernel
theorem drN_eq {g d : Nat} (hg : g < 64) (ho : g % 2 = 1) (h1 : 1 ≤ d) (hd : d < 256) : lfN g (64 * d) = drN g d (lfN g (64 * (d / 2))) := by
  have h := List.all_eq_true.mp drN_all (g / 2) (List.mem_range.mpr (by omega))
  have h2 := List.all_eq_true.mp h (d - 1) (List.mem_range.mpr (by omega))
  rw [show 2 * (g / 2) + 1 = g by omega, show d - 1 + 1 = d by omega] at h2
  exact eq_of_beq h2
/-- rows: what the reference does to one -/
abbrev RT : Type := Nat → Int32
def npF (ρ : RT) : RT := upd (upd (upd (upd ρ 18 (-9)) 19 (-9)) 20 (-9)) 21 (-9)
def quF (ρ : RT) : RT := upd (upd ρ 7 0) 2 0
def loF (ρ : RT) : RT := npF (quF (upd (upd ρ 3 0) 13 (ρ 13 + 1)))
def fIx (p : Nat → Bool) : Nat → Nat → Nat
  | 0, k => k
  | n + 1, k => if p k then k else fIx p n (k + 1)
def nN (x : Int32) : Nat := x.toNatClampNeg
theorem nN_nI {n : Nat} (h : n < 2 ^ 31) : nN (nI n) = n := nI_clamp h
def hoF (ρ : RT) (s : Int32) : RT :=
  if 1 ≤ s ∧ s ≤ 204 then
    (if fIx (fun k => decide (ρ (31 + k) = s)) (nN (ρ 30)) 0 < nN (ρ 30) then upd ρ (39 + fIx (fun k => decide (ρ (31 + k) = s)) (nN (ρ 30)) 0) (ρ (39 + fIx (fun k => decide (ρ (31 + k) = s)) (nN (ρ 30)) 0) + (if ρ (39 + fIx (fun k => decide (ρ (31 + k) = s)) (nN (ρ 30)) 0) < 99 then 1 else 0))
    else if nN (ρ 30) < 8 then upd (upd (upd ρ (31 + nN (ρ 30)) s) (39 + nN (ρ 30)) 1) 30 (ρ 30 + 1) else ρ)
  else ρ
def tfF (ρ : RT) (f : Int32) : RT := if ρ 17 = f then ρ else upd (upd (upd (upd (upd (upd (upd (upd (upd ρ 17 f) 22 (-9)) 26 (-9)) 23 (-9)) 27 (-9)) 24 (-9)) 28 (-9)) 25 (-9)) 29 (-9)
def tpF (ρ : RT) (pl : Nat) (x : Int32) : RT := if ρ (26 + pl) = x then upd (upd ρ (22 + pl) x) (26 + pl) x else upd ρ (26 + pl) x
/-- the first PART looked at -/
def l1F (ρ : RT) : RT := if ρ 18 = -9 then ρ else upd (upd ρ 14 (if ρ 15 = ρ 18 then ρ 18 else ρ 14)) 15 (ρ 18)
def l2F (ρ : RT) : RT :=
  if ρ 19 = -9 then ρ
  else if nN (ρ 19) / 64 = 0 then (if ρ 20 ≠ -9 ∧ ρ 21 ≠ -9 then tpF ρ (nN (ρ 19) % 4) (256 * ρ 20 + ρ 21) else ρ)
  else if nN (ρ 19) / 64 = 1 then (if ρ 20 ≠ -9 ∧ ρ 21 ≠ -9 ∧ ρ 20 < 24 ∧ ρ 21 < 60 then upd ρ 16 (60 * ρ 20 + ρ 21) else ρ)
  else if nN (ρ 19) / 64 = 2 then hoF (hoF ρ (ρ 20)) (ρ 21)
  else tfF ρ (nI (nN (ρ 19) % 2))
def laF (ρ : RT) : RT := l2F (l1F ρ)
/-- a station: G, OFFSETS, HOLD, the sure burst of each rest -/
abbrev CT : Type := Nat × (Nat → Nat) × Nat × (Nat → Nat)
def hitN (c : CT) (w : Nat) : Nat := fIx (fun k => decide (c.2.1 k = lfN c.1 w)) 4 0
/-- the quotient and what is left, as Java has them -/
def qt (x : Int32) : Int32 := x / 14
def fitsB (ρ : RT) (k : Nat) : Prop := ρ 7 = 1 ∧ (ρ 0 - ρ 8) - (ρ 0 - ρ 8) / 14 * 14 = 0 ∧ 1 ≤ (ρ 0 - ρ 8) / 14 ∧ (ρ 0 - ρ 8) / 14 ≤ 4 ∧ (nN (ρ 9) + nN ((ρ 0 - ρ 8) / 14)) % 4 = k
noncomputable def skF (c : CT) (ρ : RT) : RT := by
  classical
  exact if ρ 2 < 14 ∨ hitN c (nN (ρ 1)) = 4 then ρ
    else if fitsB ρ (hitN c (nN (ρ 1))) then
      (fun σ => if hitN c (nN (ρ 1)) = 3 then laF σ else σ) (upd (upd (npF (upd (upd (upd (upd ρ 3 1) 4 (nI ((hitN c (nN (ρ 1)) + 1) % 4))) 5 0) 6 0)) 10 (ρ 10 + 1)) (18 + hitN c (nN (ρ 1))) (nI (nN (ρ 1) / 64)))
    else upd (upd (upd ρ 7 1) 8 (ρ 0)) 9 (nI (hitN c (nN (ρ 1))))
def cpF (k : Nat) (ρ : RT) : RT := if k = 0 then npF ρ else ρ
def nxF (k : Nat) (ρ : RT) : RT := upd (if k = 3 then laF ρ else ρ) 4 (nI ((k + 1) % 4))
def blF (c : CT) (ρ : RT) : RT :=
  if lfN c.1 (nN (ρ 1) ^^^ c.2.1 (nN (ρ 4))) = 0 then nxF (nN (ρ 4)) (upd (upd (upd (cpF (nN (ρ 4)) ρ) 10 (ρ 10 + 1)) 6 0) (18 + nN (ρ 4)) (nI (nN (ρ 1) / 64)))
  else if c.2.2.2 (lfN c.1 (nN (ρ 1) ^^^ c.2.1 (nN (ρ 4)))) ≠ 0 then nxF (nN (ρ 4)) (upd (upd (cpF (nN (ρ 4)) ρ) 11 (ρ 11 + 1)) (18 + nN (ρ 4)) (nI ((nN (ρ 1) ^^^ c.2.2.2 (lfN c.1 (nN (ρ 1) ^^^ c.2.1 (nN (ρ 4))))) / 64)))
  else if ρ 6 + 1 = nI c.2.2.1 then loF (upd (upd (upd (cpF (nN (ρ 4)) ρ) 12 (ρ 12 + 1)) 6 (ρ 6 + 1)) (18 + nN (ρ 4)) (-9))
  else nxF (nN (ρ 4)) (upd (upd (upd (cpF (nN (ρ 4)) ρ) 12 (ρ 12 + 1)) 6 (ρ 6 + 1)) (18 + nN (ρ 4)) (-9))
def b1F (ρ : RT) (b : Nat) : RT := upd (upd (upd ρ 1 (nI ((2 * nN (ρ 1) + b) % 16384))) 0 (ρ 0 + 1)) 2 (ρ 2 + 1)
noncomputable def htF (c : CT) (ρ : RT) (b : Nat) : RT :=
  if b1F ρ b 3 = 0 then skF c (b1F ρ b)
  else if b1F ρ b 5 + 1 = 14 then blF c (upd (upd (b1F ρ b) 5 (b1F ρ b 5 + 1)) 5 0)
  else upd (b1F ρ b) 5 (b1F ρ b 5 + 1)
/-- n bits of v, the highest first -/
noncomputable def hsF (c : CT) : Nat → RT → Nat → RT
  | 0, ρ, _ => ρ
  | n + 1, ρ, v => hsF c n (htF c ρ (v / 2 ^ n % 2)) v
end
section
theorem fa_and (a b : Nat) : nI a &&& nI b = nI (a &&& b) := by
  apply Int32.toBitVec_inj.1
  show BitVec.ofNat 32 a &&& BitVec.ofNat 32 b = BitVec.ofNat 32 (a &&& b)
  apply BitVec.eq_of_getLsbD_eq
  intro i hi
  simp [hi]
theorem fa_or (a b : Nat) : nI a ||| nI b = nI (a ||| b) := by
  apply Int32.toBitVec_inj.1
  show BitVec.ofNat 32 a ||| BitVec.ofNat 32 b = BitVec.ofNat 32 (a ||| b)
  apply BitVec.eq_of_getLsbD_eq
  intro i hi
  simp [hi]
theorem fa_mask (n k : Nat) : nI n &&& nI (2 ^ k - 1) = nI (n % 2 ^ k) := by rw [fa_and, Nat.and_two_pow_sub_one_eq_mod]
theorem fb_xorI (a b : Nat) : nI a ^^^ nI b = nI (a ^^^ b) := by
  apply Int32.toBitVec_inj.1
  show BitVec.ofNat 32 a ^^^ BitVec.ofNat 32 b = BitVec.ofNat 32 (a ^^^ b)
  apply BitVec.eq_of_getLsbD_eq
  intro i hi
  simp [hi]
theorem s_l : ∀ n, n < 32 → ((nI n &&& 31).toBitVec.smod 32).toNat = n := by decide +kernel
theorem shrI {s j : Nat} (hs : s < 2 ^ 31) (hj : j < 32) : nI s >>> (nI j &&& 31) = nI (s / 2 ^ j) := pk_shrN hs _ j (s_l j hj)
theorem shlI {s j : Nat} (hs : s * 2 ^ j < 2 ^ 32) (hj : j < 32) : nI s <<< (nI j &&& 31) = nI (s * 2 ^ j) := pk_shlN _ j (s_l j hj) hs
theorem and1 (n : Nat) : nI n &&& 1 = nI (n % 2) := fa_mask n 1
theorem and3 (n : Nat) : nI n &&& 3 = nI (n % 4) := fa_mask n 2
theorem and63 (n : Nat) : nI n &&& 63 = nI (n % 64) := fa_mask n 6
theorem and255 (n : Nat) : nI n &&& 255 = nI (n % 256) := fa_mask n 8
theorem and16383 (n : Nat) : nI n &&& 16383 = nI (n % 16384) := fa_mask n 14
theorem nI_inj {a b : Nat} (ha : a < 2 ^ 31) (hb : b < 2 ^ 31) (h : nI a = nI b) : a = b := (nI_eq ha hb).mp h
theorem nI_ne {a b : Nat} (ha : a < 2 ^ 31) (hb : b < 2 ^ 31) (h : a ≠ b) : nI a ≠ nI b := fun e => h (nI_inj ha hb e)
theorem nI_ne9 {a : Nat} (ha : a < 2 ^ 31) : nI a ≠ -9 := fun e => nI_pos ha (by rw [e]; decide)
theorem remI {a d : Nat} (ha : a < 2 ^ 31) (h0 : 0 < d) (hd : d < 2 ^ 31) : nI a - nI a / nI d * nI d = nI (a % d) := pk_rem ha h0 hd
theorem bit_eq (s j : Nat) : s / 2 ^ j % 2 = if s.testBit j then 1 else 0 := by
  rw [Nat.testBit_eq_decide_div_mod_eq]
  by_cases h : s / 2 ^ j % 2 = 1
  · simp [h]
  · have : s / 2 ^ j % 2 < 2 := Nat.mod_lt _ (by decide)
    simp [h]; omega
theorem bitI {s j : Nat} (hs : s < 2 ^ 31) (hj : j < 32) : (nI s >>> (nI j &&& 31)) &&& 1 = nI (if s.testBit j then 1 else 0) := by rw [shrI hs hj, and1, bit_eq]
theorem i64_le (x y : Int64) : x ≤ y ↔ x.toInt ≤ y.toInt := Int64.le_iff_toInt_le
theorem i64_lt (x y : Int64) : x < y ↔ x.toInt < y.toInt := Int64.lt_iff_toInt_lt
theorem i32_le (x y : Int32) : x ≤ y ↔ x.toInt ≤ y.toInt := Int32.le_iff_toInt_le
theorem i32_lt (x y : Int32) : x < y ↔ x.toInt < y.toInt := Int32.lt_iff_toInt_lt
/-- a number between two -/
def isBt (a b : Nat) (x : Int32) (T F : Prop) : Prop := (∀ j, a ≤ j → j ≤ b → x = nI j → T) ∧ ((∀ j, a ≤ j → j ≤ b → x ≠ nI j) → F)
theorem bt_t {a b : Nat} {x : Int32} (hb : b < 2 ^ 31) (h1 : (a : Int) ≤ x.toInt) (h2 : x.toInt ≤ b) : ∃ j, a ≤ j ∧ j ≤ b ∧ x = nI j := by
  refine ⟨x.toInt.toNat, by omega, by omega, ?_⟩
  apply Int32.toInt_inj.mp
  rw [nI_toInt (by omega)]
  omega
theorem isBt_t {a b : Nat} {x : Int32} {T F : Prop} (hp : isBt a b x T F) (hb : b < 2 ^ 31) (h1 : (a : Int) ≤ x.toInt) (h2 : x.toInt ≤ b) : T := by
  obtain ⟨j, g1, g2, g3⟩ := bt_t hb h1 h2
  exact hp.1 j g1 g2 g3
theorem isBt_f {a b : Nat} {x : Int32} {T F : Prop} (hp : isBt a b x T F) (hb : b < 2 ^ 31) (h : ¬ ((a : Int) ≤ x.toInt ∧ x.toInt ≤ b)) : F := by
  refine hp.2 (fun j g1 g2 e => h ?_)
  rw [e, nI_toInt (by omega)]
  omega
theorem i32_64 (x : Int32) : x.toInt64.toInt = x.toInt := Int32.toInt_toInt64 x
end
section
theorem wcp1 : Cond.native arraycopyName ∈ lw_tbl := List.mem_of_getElem? (i := 504) (by decide +kernel)
theorem wcp2 : Cond.static arraycopyName ∈ lw_tbl := List.mem_of_getElem? (i := 503) (by decide +kernel)
theorem wcp3 : Cond.initialized "java/lang/System" ∈ lw_tbl := List.mem_of_getElem? (i := 58) (by decide +kernel)
def bI (b : Bool) : Int32 := if b then 1 else 0
theorem rng_t {x M : Int32} {n : Nat} (h0 : ¬ x < 0) (h1 : ¬ M ≤ x) (hM : M = nI n) (hn : n < 2 ^ 31) : ∃ j, j < n ∧ x = nI j := by
  subst hM
  rcases pk_ix x hn with h | h | h
  · exact absurd h h0
  · exact absurd h h1
  · exact h
theorem rng_f0 {x : Int32} {n : Nat} (h0 : x < 0) (hn : n ≤ 2 ^ 31) : ∀ j, j < n → x ≠ nI j := fun j hj e => nI_pos (n := j) (by omega) (e ▸ h0)
theorem rng_f1 {x M : Int32} {n : Nat} (h1 : M ≤ x) (hM : M = nI n) (hn : n < 2 ^ 31) : ∀ j, j < n → x ≠ nI j := fun j hj e => nI_ge hj hn (hM ▸ e ▸ h1)
/-- a test whether a number is of 0 .. n - 1 -/
def isIn (n : Nat) (x : Int32) (T F : Prop) : Prop := (∀ j, j < n → x = nI j → T) ∧ ((∀ j, j < n → x ≠ nI j) → F)
theorem isIn_t {n : Nat} {x M : Int32} {T F : Prop} (h : isIn n x T F) (h0 : ¬ x < 0) (h1 : ¬ M ≤ x) (hM : M = nI n) (hn : n < 2 ^ 31) : T := by
  obtain ⟨j, hj, e⟩ := rng_t h0 h1 hM hn
  exact h.1 j hj e
theorem isIn_f0 {n : Nat} {x : Int32} {T F : Prop} (h : isIn n x T F) (h0 : x < 0) (hn : n ≤ 2 ^ 31) : F := h.2 (rng_f0 h0 hn)
theorem isIn_f1 {n : Nat} {x M : Int32} {T F : Prop} (h : isIn n x T F) (h1 : M ≤ x) (hM : M = nI n) (hn : n < 2 ^ 31) : F := h.2 (rng_f1 h1 hM hn)
theorem c_isOffset {g : GT} {Z : ZT} {I : IT} {L : LT} {Post : PT} {x : Int32} (hp : isIn 4 x (Post (some (.int 1)) Z I L) (Post (some (.int 0)) Z I L)) : CM g 0 0 0 mX5_isOffset [.int x] Z I L Post := by
  refine CM_intro ?_
  refine j_iload_n 0 dX5_isOffset_0 rfl (j_if_lt (tgt := 13) dX5_isOffset_1 rfl (fun h1 => ?_) (fun h1 => ?_))
  · refine j_iconst (v := 0) dX5_isOffset_13 rfl (j_zret dX5_isOffset_14 (by decide) ?_)
    first | exact isIn_t hp h1 h6 rfl (by decide) | exact isIn_f0 hp h1 (by decide) | exact isIn_f1 hp h6 rfl (by decide)
  · refine j_iload_n 0 dX5_isOffset_4 rfl (j_iconst (v := 4) dX5_isOffset_5 rfl (j_icmp_ge (tgt := 13) dX5_isOffset_6 rfl (fun h6 => ?_) (fun h6 => ?_)))
    · refine j_iconst (v := 0) dX5_isOffset_13 rfl (j_zret dX5_isOffset_14 (by decide) ?_)
      first | exact isIn_t hp h1 h6 rfl (by decide) | exact isIn_f0 hp h1 (by decide) | exact isIn_f1 hp h6 rfl (by decide)
    · refine j_iconst (v := 1) dX5_isOffset_9 rfl (j_goto (tgt := 14) dX5_isOffset_10 rfl (j_zret dX5_isOffset_14 (by decide) ?_))
      first | exact isIn_t hp h1 h6 rfl (by decide) | exact isIn_f0 hp h1 (by decide) | exact isIn_f1 hp h6 rfl (by decide)
theorem c_isPlace {g : GT} {Z : ZT} {I : IT} {L : LT} {Post : PT} {x : Int32} (hp : isIn 4 x (Post (some (.int 1)) Z I L) (Post (some (.int 0)) Z I L)) : CM g 0 0 0 mX5_isPlace [.int x] Z I L Post := by
  refine CM_intro ?_
  refine j_iload_n 0 dX5_isPlace_0 rfl (j_if_lt (tgt := 13) dX5_isPlace_1 rfl (fun h1 => ?_) (fun h1 => ?_))
  · refine j_iconst (v := 0) dX5_isPlace_13 rfl (j_zret dX5_isPlace_14 (by decide) ?_)
    first | exact isIn_t hp h1 h6 rfl (by decide) | exact isIn_f0 hp h1 (by decide) | exact isIn_f1 hp h6 rfl (by decide)
  · refine j_iload_n 0 dX5_isPlace_4 rfl (j_iconst (v := 4) dX5_isPlace_5 rfl (j_icmp_ge (tgt := 13) dX5_isPlace_6 rfl (fun h6 => ?_) (fun h6 => ?_)))
    · refine j_iconst (v := 0) dX5_isPlace_13 rfl (j_zret dX5_isPlace_14 (by decide) ?_)
      first | exact isIn_t hp h1 h6 rfl (by decide) | exact isIn_f0 hp h1 (by decide) | exact isIn_f1 hp h6 rfl (by decide)
    · refine j_iconst (v := 1) dX5_isPlace_9 rfl (j_goto (tgt := 14) dX5_isPlace_10 rfl (j_zret dX5_isPlace_14 (by decide) ?_))
      first | exact isIn_t hp h1 h6 rfl (by decide) | exact isIn_f0 hp h1 (by decide) | exact isIn_f1 hp h6 rfl (by decide)
theorem c_isSlot {g : GT} {Z : ZT} {I : IT} {L : LT} {Post : PT} {x : Int32} (hp : isIn 2 x (Post (some (.int 1)) Z I L) (Post (some (.int 0)) Z I L)) : CM g 0 0 0 mX5_isSlot [.int x] Z I L Post := by
  refine CM_intro ?_
  refine j_iload_n 0 dX5_isSlot_0 rfl (j_if_lt (tgt := 13) dX5_isSlot_1 rfl (fun h1 => ?_) (fun h1 => ?_))
  · refine j_iconst (v := 0) dX5_isSlot_13 rfl (j_zret dX5_isSlot_14 (by decide) ?_)
    first | exact isIn_t hp h1 h6 rfl (by decide) | exact isIn_f0 hp h1 (by decide) | exact isIn_f1 hp h6 rfl (by decide)
  · refine j_iload_n 0 dX5_isSlot_4 rfl (j_iconst (v := 2) dX5_isSlot_5 rfl (j_icmp_ge (tgt := 13) dX5_isSlot_6 rfl (fun h6 => ?_) (fun h6 => ?_)))
    · refine j_iconst (v := 0) dX5_isSlot_13 rfl (j_zret dX5_isSlot_14 (by decide) ?_)
      first | exact isIn_t hp h1 h6 rfl (by decide) | exact isIn_f0 hp h1 (by decide) | exact isIn_f1 hp h6 rfl (by decide)
    · refine j_iconst (v := 1) dX5_isSlot_9 rfl (j_goto (tgt := 14) dX5_isSlot_10 rfl (j_zret dX5_isSlot_14 (by decide) ?_))
      first | exact isIn_t hp h1 h6 rfl (by decide) | exact isIn_f0 hp h1 (by decide) | exact isIn_f1 hp h6 rfl (by decide)
theorem c_isByte {g : GT} {Z : ZT} {I : IT} {L : LT} {Post : PT} {x : Int32} (hp : isIn 256 x (Post (some (.int 1)) Z I L) (Post (some (.int 0)) Z I L)) : CM g 0 0 0 mX5_isByte [.int x] Z I L Post := by
  refine CM_intro ?_
  refine j_iload_n 0 dX5_isByte_0 rfl (j_if_lt (tgt := 15) dX5_isByte_1 rfl (fun h1 => ?_) (fun h1 => ?_))
  · refine j_iconst (v := 0) dX5_isByte_15 rfl (j_zret dX5_isByte_16 (by decide) ?_)
    first | exact isIn_t hp h1 h8 rfl (by decide) | exact isIn_f0 hp h1 (by decide) | exact isIn_f1 hp h8 rfl (by decide)
  · refine j_iload_n 0 dX5_isByte_4 rfl (j_sipush (v := 256) dX5_isByte_5 rfl (j_icmp_ge (tgt := 15) dX5_isByte_8 rfl (fun h8 => ?_) (fun h8 => ?_)))
    · refine j_iconst (v := 0) dX5_isByte_15 rfl (j_zret dX5_isByte_16 (by decide) ?_)
      first | exact isIn_t hp h1 h8 rfl (by decide) | exact isIn_f0 hp h1 (by decide) | exact isIn_f1 hp h8 rfl (by decide)
    · refine j_iconst (v := 1) dX5_isByte_11 rfl (j_goto (tgt := 16) dX5_isByte_12 rfl (j_zret dX5_isByte_16 (by decide) ?_))
      first | exact isIn_t hp h1 h8 rfl (by decide) | exact isIn_f0 hp h1 (by decide) | exact isIn_f1 hp h8 rfl (by decide)
end
section
theorem c_in {g : GT} {Z : ZT} {I : IT} {L : LT} {Post : PT} {x y z : Int64} (ht : y ≤ x ∧ x ≤ z → Post (some (.int 1)) Z I L) (hf : ¬ (y ≤ x ∧ x ≤ z) → Post (some (.int 0)) Z I L) : CM g 0 0 0 mX6_in [.long x, .long y, .long z] Z I L Post := by
  refine CM_intro ?_
  refine j_lload_n 0 dX6_in_0 rfl (j_lload_n 1 dX6_in_1 rfl (j_lcmp dX6_in_2 (j_if_lt (tgt := 17) dX6_in_3 rfl (fun h3 => ?_) (fun h3 => ?_))))
  · refine j_iconst (v := 0) dX6_in_17 rfl (j_zret dX6_in_18 (by decide) ?_)
    first | exact ht ⟨Int64.not_lt.mp (fun q => h3 ((lg_cmp_lt _ _).mpr q)), Int64.not_lt.mp (fun q => h10 ((lg_cmp_gt _ _).mpr q))⟩ | exact hf (fun q => absurd ((lg_cmp_lt _ _).mp h3) (Int64.not_lt.mpr q.1)) | exact hf (fun q => absurd ((lg_cmp_gt _ _).mp h10) (Int64.not_lt.mpr q.2))
  · refine j_lload_n 0 dX6_in_6 rfl (j_lload 2 dX6_in_7 rfl (j_lcmp dX6_in_9 (j_if_gt (tgt := 17) dX6_in_10 rfl (fun h10 => ?_) (fun h10 => ?_))))
    · refine j_iconst (v := 0) dX6_in_17 rfl (j_zret dX6_in_18 (by decide) ?_)
      first | exact ht ⟨Int64.not_lt.mp (fun q => h3 ((lg_cmp_lt _ _).mpr q)), Int64.not_lt.mp (fun q => h10 ((lg_cmp_gt _ _).mpr q))⟩ | exact hf (fun q => absurd ((lg_cmp_lt _ _).mp h3) (Int64.not_lt.mpr q.1)) | exact hf (fun q => absurd ((lg_cmp_gt _ _).mp h10) (Int64.not_lt.mpr q.2))
    · refine j_iconst (v := 1) dX6_in_13 rfl (j_goto (tgt := 18) dX6_in_14 rfl (j_zret dX6_in_18 (by decide) ?_))
      first | exact ht ⟨Int64.not_lt.mp (fun q => h3 ((lg_cmp_lt _ _).mpr q)), Int64.not_lt.mp (fun q => h10 ((lg_cmp_gt _ _).mpr q))⟩ | exact hf (fun q => absurd ((lg_cmp_lt _ _).mp h3) (Int64.not_lt.mpr q.1)) | exact hf (fun q => absurd ((lg_cmp_gt _ _).mp h10) (Int64.not_lt.mpr q.2))
theorem c_inB {g : GT} {Z : ZT} {I : IT} {L : LT} {Post : PT} {x : Int32} {y z : Int64} (a b : Nat) (hb : b < 2 ^ 31) (hy : y.toInt = (a : Int)) (hz : z.toInt = (b : Int)) (hp : isBt a b x (Post (some (.int 1)) Z I L) (Post (some (.int 0)) Z I L)) : CM g 0 0 0 mX6_in [.long x.toInt64, .long y, .long z] Z I L Post := by
  refine c_in (fun h => ?_) (fun h => ?_)
  · rw [i64_le, i64_le, i32_64, hy, hz] at h
    exact isBt_t hp hb h.1 h.2
  · rw [i64_le, i64_le, i32_64, hy, hz] at h
    exact isBt_f hp hb h
theorem c_mIsOffset {g : GT} {Z : ZT} {I : IT} {L : LT} {Post : PT} {x : Int32} (hp : isBt 0 3 x (Post (some (.int 1)) Z I L) (Post (some (.int 0)) Z I L)) : CM g 1 0 0 mX6_isOffset [.int x] Z I L Post := by
  refine CM_intro ?_
  refine j_iload_n 0 dX6_isOffset_0 rfl (j_i2l dX6_isOffset_1 (j_lconst (v := 0) dX6_isOffset_2 rfl (j_ldc2 (v := 3) dX6_isOffset_3 (List.mem_of_getElem? (i := 853) (by decide +kernel)) (j_S3 dX6_isOffset_6 kX6_68 (c_inB 0 3 (by decide) rfl rfl ?_)))))
  refine ⟨fun j h1 h2 e => ?_, fun h => ?_⟩
  · refine j_zret dX6_isOffset_9 (by decide) ?_
    exact hp.1 j h1 h2 e
  · refine j_zret dX6_isOffset_9 (by decide) ?_
    exact hp.2 h
theorem c_has {g : GT} {Z : ZT} {I : IT} {L : LT} {Post : PT} {s j : Nat} (hs : s < 2 ^ 31) (hj : j < 31) (ht : s.testBit j = true → Post (some (.int 1)) Z I L) (hf : s.testBit j = false → Post (some (.int 0)) Z I L) : CM g 0 0 0 mX6_has [.int (nI s), .int (nI j)] Z I L Post := by
  refine CM_intro ?_
  have e := bitI hs (show j < 32 by omega)
  cases hb : s.testBit j with
  | true =>
    rw [hb] at e
    refine j_iload_n 0 dX6_has_0 rfl (j_iload_n 1 dX6_has_1 rfl (j_ishr dX6_has_2 (j_iconst (v := 1) dX6_has_3 rfl (j_iand dX6_has_4 (j_iconst (v := 1) dX6_has_5 rfl (j_icmp_ne (tgt := 13) dX6_has_6 rfl (fun h6 => ?_) (fun h6 => ?_)))))))
    · refine j_iconst (v := 0) dX6_has_13 rfl (j_zret dX6_has_14 (by decide) ?_)
      first | exact ht hb | exact absurd e h6
    · refine j_iconst (v := 1) dX6_has_9 rfl (j_goto (tgt := 14) dX6_has_10 rfl (j_zret dX6_has_14 (by decide) ?_))
      first | exact ht hb | exact absurd e h6
  | false =>
    rw [hb] at e
    refine j_iload_n 0 dX6_has_0 rfl (j_iload_n 1 dX6_has_1 rfl (j_ishr dX6_has_2 (j_iconst (v := 1) dX6_has_3 rfl (j_iand dX6_has_4 (j_iconst (v := 1) dX6_has_5 rfl (j_icmp_ne (tgt := 13) dX6_has_6 rfl (fun h6 => ?_) (fun h6 => ?_)))))))
    · refine j_iconst (v := 0) dX6_has_13 rfl (j_zret dX6_has_14 (by decide) ?_)
      first | exact hf hb | exact absurd (e.symm.trans h6) (by decide)
    · refine j_iconst (v := 1) dX6_has_9 rfl (j_goto (tgt := 14) dX6_has_10 rfl (j_zret dX6_has_14 (by decide) ?_))
      first | exact hf hb | exact absurd (e.symm.trans h6) (by decide)
def onF (s : Nat) : Nat → Nat
  | 0 => 0
  | k + 1 => onF s k + (if s.testBit k then 1 else 0)
theorem onF_le (s : Nat) : ∀ k, onF s k ≤ k
  | 0 => Nat.le_refl 0
  | k + 1 => by have := onF_le s k; unfold onF; split <;> omega
theorem c_ones {g : GT} {Z : ZT} {I : IT} {L : LT} {Post : PT} {s : Nat} (hs : s < 2 ^ 31) (hp : Post (some (.int (nI (onF s 14)))) Z I L) : CM g 0 0 0 mX6_ones [.int (nI s)] Z I L Post := by
  refine CM_intro ?_
  have loop : ∀ (m k : Nat), k + m = 14 → JW g mX6_ones (rmO 0 0 0) (QM Post 0 0) 4 [(2, .int (nI k)), (1, .int (nI (onF s k))), (0, .int (nI s))] [] 0 0 Z I L := by
    intro m
    induction m with
    | zero =>
      intro k hk
      have hk : k = 14 := by omega
      subst hk
      refine j_iload_n 0 dX6_ones_4 rfl (j_bipush (v := 14) dX6_ones_5 rfl (j_icmp_ge (tgt := 24) dX6_ones_7 rfl (fun h1 => ?_) (fun h1 => ?_)))
      · refine j_iload_n 1 dX6_ones_24 rfl (j_iret dX6_ones_25 ?_)
        exact hp
      · exact absurd (by decide) h1
    | succ m ih =>
      intro k hk
      refine j_iload_n 0 dX6_ones_4 rfl (j_bipush (v := 14) dX6_ones_5 rfl (j_icmp_ge (tgt := 24) dX6_ones_7 rfl (fun h1 => ?_) (fun h1 => ?_)))
      · exact absurd h1 (nI_ge (show k < 14 by omega) (by decide))
      · refine j_iload_n 1 dX6_ones_10 rfl (j_iload_n 2 dX6_ones_11 rfl (j_iload_n 0 dX6_ones_12 rfl (j_ishr dX6_ones_13 (j_iconst (v := 1) dX6_ones_14 rfl (j_iand dX6_ones_15 (j_iadd dX6_ones_16 (j_istore_n (lv' := [(1, _), (2, _), (0, _)]) dX6_ones_17 rfl (j_iinc (y := 1) (lv' := [(2, _), (1, _), (0, _)]) 1 dX6_ones_18 rfl rfl rfl (j_goto (tgt := 4) dX6_ones_21 rfl ?_)))))))))
        rw [bitI hs (show k < 32 by omega), nI_add, nI_1]
        exact JW.locals [0, 1, 2] rfl (ih (k + 1) (by omega))
  refine j_iconst (v := 0) dX6_ones_0 rfl (j_istore_n (lv' := [(1, _), (0, _)]) dX6_ones_1 rfl (j_iconst (v := 0) dX6_ones_2 rfl (j_istore_n (lv' := [(2, _), (1, _), (0, _)]) dX6_ones_3 rfl ?_)))
  exact loop 14 0 rfl
end
section
theorem og_lt {gn : Nat} (h : gn < 64) : 64 ||| gn < 128 := Nat.or_lt_two_pow (n := 7) (by decide) (by omega)
theorem c_left {g : GT} {Z : ZT} {I : IT} {L : LT} {Post : PT} {gn n : Nat} (hK : zK Z 198 = 6) (hg : I 198 2 = nI gn) (hgn : gn < 64) (hn : n < 16384) (hp : Post (some (.int (nI (lfN gn n)))) Z I L) : CM g 1 0 0 mX6_left [.ref 198, .int (nI n)] Z I L Post := by
  refine CM_intro ?_
  have loop : ∀ (j rest : Nat), j ≤ 8 → rest < 2 ^ (j + 6) → lfL gn j rest = lfN gn n → JW g mX6_left (rmO 1 0 0) (QM Post 0 0) 5 [(3, .int (nI (j + 5))), (2, .int (nI rest)), (0, .ref 198), (1, .int (nI n))] [] 0 0 Z I L := by
    intro j
    induction j with
    | zero =>
      intro rest _ hr e
      refine j_iload_n 0 dX6_left_5 rfl (j_iconst (v := 5) dX6_left_6 rfl (j_icmp_le (tgt := 39) dX6_left_7 rfl (fun h1 => ?_) (fun h1 => ?_)))
      · refine j_iload_n 1 dX6_left_39 rfl (j_iret dX6_left_40 ?_)
        rw [← e] at hp
        exact hp
      · exact absurd (by decide) h1
    | succ j ih =>
      intro rest hj hr e
      have hr2 : rest < 2 ^ 31 := Nat.lt_of_lt_of_le hr (Nat.pow_le_pow_right (by decide) (by omega))
      have e1 : nI (j + 1 + 5) + -1 = nI (j + 5) := pk_m1 (j + 5)
      have hlt : lfS gn (j + 6) rest < 2 ^ (j + 6) := lfS_lt hgn (by omega) (by rw [show j + 6 + 1 = j + 1 + 6 by omega]; exact hr)
      refine j_iload_n 0 dX6_left_5 rfl (j_iconst (v := 5) dX6_left_6 rfl (j_icmp_le (tgt := 39) dX6_left_7 rfl (fun h1 => ?_) (fun h1 => ?_)))
      · exact absurd h1 (nI_ge (show 5 < j + 1 + 5 by omega) (by omega))
      · refine j_iload_n 1 dX6_left_10 rfl (j_iload_n 0 dX6_left_11 rfl (j_S2 dX6_left_12 kX6_72 (c_has hr2 (by omega) (fun hb => ?_) (fun hb => ?_))))
        · refine j_if_eq (tgt := 33) dX6_left_15 rfl (fun h2 => ?_) (fun h2 => ?_)
          · exact absurd h2 (by decide)
          · refine j_iload_n 1 dX6_left_18 rfl (j_bipush (v := 64) dX6_left_19 rfl (j_aload_n 2 dX6_left_21 rfl (j_getI dX6_left_22 fX6_53 (by first | assumption | rfl) (j_ior dX6_left_25 (j_iload_n 0 dX6_left_26 rfl (j_bipush (v := 6) dX6_left_27 rfl (j_isub dX6_left_29 (j_ishl dX6_left_30 (j_ixor dX6_left_31 (j_istore_n (lv' := [(2, _), (3, _), (0, _), (1, _)]) dX6_left_32 rfl (j_iinc (y := -1) (lv' := [(3, _), (2, _), (0, _), (1, _)]) 1 dX6_left_33 rfl rfl rfl (j_goto (tgt := 5) dX6_left_36 rfl ?_))))))))))))
            have e2 : nI rest ^^^ ((64 ||| I 198 2) <<< ((nI (j + 1 + 5) - 6) &&& 31)) = nI (lfS gn (j + 6) rest) := by
              rw [hg, show (64 : Int32) = nI 64 from rfl, fa_or, show nI (j + 1 + 5) - 6 = nI j from pk_sub (a := j + 1 + 5) (b := 6) (by omega), shlI (Nat.lt_of_lt_of_le (Nat.mul_lt_mul_of_pos_right (og_lt hgn) (Nat.two_pow_pos j)) (by have : 2 ^ j ≤ 2 ^ 8 := Nat.pow_le_pow_right (by decide) (by omega); omega)) (by omega), fb_xorI]
              unfold lfS
              rw [show (j + 6) = j + 1 + 5 by omega, hb, if_pos rfl, Nat.shiftLeft_eq, show j + 1 + 5 - 6 = j by omega]
            rw [e1, e2]
            exact JW.locals [0, 1, 2, 3] rfl (ih _ (by omega) hlt e)
        · refine j_if_eq (tgt := 33) dX6_left_15 rfl (fun h2 => ?_) (fun h2 => ?_)
          · refine j_iinc (y := -1) (lv' := [(3, _), (2, _), (0, _), (1, _)]) 0 dX6_left_33 rfl rfl rfl (j_goto (tgt := 5) dX6_left_36 rfl ?_)
            have e2 : lfS gn (j + 6) rest = rest := by
              unfold lfS
              rw [show (j + 6) = j + 1 + 5 by omega, hb]
              rfl
            rw [e1]
            exact JW.locals [0, 1, 2, 3] rfl (ih rest (by omega) (e2 ▸ hlt) (by rw [← e]; show _ = lfL gn j (lfS gn (j + 6) rest); rw [e2]))
          · exact absurd rfl h2
  refine j_iload_n 1 dX6_left_0 rfl (j_istore_n (lv' := [(2, _), (0, _), (1, _)]) dX6_left_1 rfl (j_bipush (v := 13) dX6_left_2 rfl (j_istore_n (lv' := [(3, _), (2, _), (0, _), (1, _)]) dX6_left_4 rfl ?_)))
  exact JW.locals [0, 1, 2, 3] rfl (loop 8 n (by omega) hn rfl)
/-- THE WORD of d for OFFSET k -/
def wdN (c : CT) (k d : Nat) : Nat := 64 * d + (lfN c.1 (64 * d) ^^^ c.2.1 k)
theorem xor_lt64 {a b : Nat} (ha : a < 64) (hb : b < 64) : a ^^^ b < 64 := Nat.xor_lt_two_pow (n := 6) ha hb
theorem xor_lt14 {a b : Nat} (ha : a < 16384) (hb : b < 16384) : a ^^^ b < 16384 := Nat.xor_lt_two_pow (n := 14) ha hb
/-- the reference's cells of a station -/
def MC (I : IT) (c : CT) : Prop := I 198 2 = nI c.1 ∧ c.1 < 64 ∧ (∀ k, k < 4 → I 200 k = nI (c.2.1 k)) ∧ (∀ k, k < 4 → c.2.1 k < 64) ∧ I 198 5 = nI c.2.2.1 ∧ 1 ≤ c.2.2.1 ∧ c.2.2.1 ≤ 9 ∧ (∀ r, r < 64 → (if 0 < r ∧ I 201 r = 1 then I 202 r else 0) = nI (c.2.2.2 r)) ∧ (∀ r, r < 64 → c.2.2.2 r < 16384) ∧ (∀ i j, i < 4 → j < 4 → c.2.1 i = c.2.1 j → i = j)
theorem wdN_lt {c : CT} {k d : Nat} (h1 : c.1 < 64) (h2 : c.2.1 k < 64) (hd : d < 256) : wdN c k d < 16384 := by
  have := xor_lt64 (lfN_lt h1 (show 64 * d < 16384 by omega)) h2
  unfold wdN
  omega
def isMo (Z : ZT) : Prop := zK Z 198 = 6 ∧ zS Z 198 3 = true ∧ zS Z 198 6 = true ∧ zS Z 198 7 = true ∧ zK Z 200 = 7 ∧ zL Z 200 = 4 ∧ zK Z 201 = 7 ∧ zL Z 201 = 64 ∧ zK Z 202 = 7 ∧ zL Z 202 = 64
theorem c_mWord {g : GT} {Z : ZT} {I : IT} {L : LT} {Post : PT} {c : CT} {k d : Nat} (hZ : isMo Z) (hc : MC I c) (hk : k < 4) (hd : d < 256) (hp : Post (some (.int (nI (wdN c k d)))) Z I L) : CM g 2 0 0 mX6_wordOf [.ref 198, .int (nI k), .int (nI d)] Z I L Post := by
  obtain ⟨z1, z2, z3, z4, z5, z6, z7, z8, z9, z10⟩ := hZ
  obtain ⟨c1, c2, c3, c4, c5, c6, c7, c8, c9, c10⟩ := hc
  refine CM_intro ?_
  have e64 : (64 : Int32) * nI d = nI (64 * d) := pk_mul 64 d
  refine j_bipush (v := 64) dX6_wordOf_0 rfl (j_iload_n 2 dX6_wordOf_2 rfl (j_imul dX6_wordOf_3 (j_aload_n 0 dX6_wordOf_4 rfl (j_bipush (v := 64) dX6_wordOf_5 rfl (j_iload_n 2 dX6_wordOf_7 rfl (j_imul dX6_wordOf_8 ?_))))))
  rw [e64]
  refine j_V1 dX6_wordOf_9 kX6_89 (by first | assumption | rfl) (c_left z1 c1 c2 (by omega) (j_aload_n 0 dX6_wordOf_12 rfl (j_getR (b := 200) dX6_wordOf_13 fX6_13 rfl (by first | assumption | rfl) (by first | assumption | rfl) (j_iload_n 1 dX6_wordOf_16 rfl (j_iaload k dX6_wordOf_17 (by first | assumption | rfl) (by first | assumption | rfl) (by omega) (j_ixor dX6_wordOf_18 (j_iadd dX6_wordOf_19 (j_iret dX6_wordOf_20 ?_))))))))
  rw [c3 k hk, fb_xorI, nI_add]
  exact hp
theorem c_mRest {g : GT} {Z : ZT} {I : IT} {L : LT} {Post : PT} {c : CT} {k w : Nat} (hZ : isMo Z) (hc : MC I c) (hk : k < 4) (hw : w < 16384) (hp : Post (some (.int (nI (lfN c.1 (w ^^^ c.2.1 k))))) Z I L) : CM g 2 0 0 mX6_restOf [.ref 198, .int (nI k), .int (nI w)] Z I L Post := by
  obtain ⟨z1, z2, z3, z4, z5, z6, z7, z8, z9, z10⟩ := hZ
  obtain ⟨c1, c2, c3, c4, c5, c6, c7, c8, c9, c10⟩ := hc
  refine CM_intro ?_
  refine j_aload_n 0 dX6_restOf_0 rfl (j_iload_n 2 dX6_restOf_1 rfl (j_aload_n 0 dX6_restOf_2 rfl (j_getR (b := 200) dX6_restOf_3 fX6_13 rfl (by first | assumption | rfl) (by first | assumption | rfl) (j_iload_n 1 dX6_restOf_6 rfl (j_iaload k dX6_restOf_7 (by first | assumption | rfl) (by first | assumption | rfl) (by omega) (j_ixor dX6_restOf_8 ?_))))))
  rw [c3 k hk, fb_xorI]
  refine j_V1 dX6_restOf_9 kX6_89 (by first | assumption | rfl) (c_left z1 c1 c2 (xor_lt14 hw (Nat.lt_trans (c4 k hk) (by decide))) (j_iret dX6_restOf_12 ?_))
  exact hp
theorem c_mSure {g : GT} {Z : ZT} {I : IT} {L : LT} {Post : PT} {c : CT} {r : Nat} (hZ : isMo Z) (hc : MC I c) (hr : r < 64) (h0 : c.2.2.2 0 = 0) (hp : Post (some (.int (nI (c.2.2.2 r)))) Z I L) : CM g 0 0 0 mX6_sureOf [.ref 198, .int (nI r)] Z I L Post := by
  obtain ⟨z1, z2, z3, z4, z5, z6, z7, z8, z9, z10⟩ := hZ
  obtain ⟨c1, c2, c3, c4, c5, c6, c7, c8, c9, c10⟩ := hc
  have h8 := c8 r hr
  refine CM_intro ?_
  refine j_iload_n 1 dX6_sureOf_0 rfl (j_if_le (tgt := 23) dX6_sureOf_1 rfl (fun h1 => ?_) (fun h1 => ?_))
  · refine j_iconst (v := 0) dX6_sureOf_23 rfl (j_iret dX6_sureOf_24 ?_)
    have : r = 0 := by
      rcases Nat.eq_zero_or_pos r with h | h
      · exact h
      · exact absurd h1 (nI_nle h (by omega))
    subst this
    rw [h0] at hp
    exact hp
  · have hr0 : 0 < r := by
      rcases Nat.eq_zero_or_pos r with h | h
      · subst h; exact absurd (by decide) h1
      · exact h
    refine j_aload_n 0 dX6_sureOf_4 rfl (j_getR (b := 201) dX6_sureOf_5 fX6_16 rfl (by first | assumption | rfl) (by first | assumption | rfl) (j_iload_n 1 dX6_sureOf_8 rfl (j_iaload r dX6_sureOf_9 (by first | assumption | rfl) (by first | assumption | rfl) (by omega) (j_iconst (v := 1) dX6_sureOf_10 rfl (j_icmp_ne (tgt := 23) dX6_sureOf_11 rfl (fun h2 => ?_) (fun h2 => ?_))))))
    · refine j_iconst (v := 0) dX6_sureOf_23 rfl (j_iret dX6_sureOf_24 ?_)
      rw [if_neg (fun q => h2 q.2)] at h8
      rw [← h8] at hp
      exact hp
    · refine j_aload_n 0 dX6_sureOf_14 rfl (j_getR (b := 202) dX6_sureOf_15 fX6_19 rfl (by first | assumption | rfl) (by first | assumption | rfl) (j_iload_n 1 dX6_sureOf_18 rfl (j_iaload r dX6_sureOf_19 (by first | assumption | rfl) (by first | assumption | rfl) (by omega) (j_goto (tgt := 24) dX6_sureOf_20 rfl (j_iret dX6_sureOf_24 ?_)))))
      rw [if_pos ⟨hr0, h2⟩] at h8
      rw [h8]
      exact hp
/-- powers, factorials -/
theorem c_power {g : GT} {Z : ZT} {I : IT} {L : LT} {Post : PT} {x n : Nat} (hn : n < 100) (hp : Post (some (.int (nI (x ^ n)))) Z I L) : CM g 0 0 0 mX6_power [.int (nI x), .int (nI n)] Z I L Post := by
  refine CM_intro ?_
  have loop : ∀ (m k : Nat), k + m = n → JW g mX6_power (rmO 0 0 0) (QM Post 0 0) 4 [(3, .int (nI k)), (2, .int (nI (x ^ k))), (0, .int (nI x)), (1, .int (nI n))] [] 0 0 Z I L := by
    intro m
    induction m with
    | zero =>
      intro k hk
      have hk : k = n := by omega
      subst hk
      refine j_iload_n 0 dX6_power_4 rfl (j_iload_n 3 dX6_power_5 rfl (j_icmp_ge (tgt := 19) dX6_power_6 rfl (fun h1 => ?_) (fun h1 => ?_)))
      · refine j_iload_n 1 dX6_power_19 rfl (j_iret dX6_power_20 ?_)
        exact hp
      · exact absurd (Int32.le_refl _) h1
    | succ m ih =>
      intro k hk
      refine j_iload_n 0 dX6_power_4 rfl (j_iload_n 3 dX6_power_5 rfl (j_icmp_ge (tgt := 19) dX6_power_6 rfl (fun h1 => ?_) (fun h1 => ?_)))
      · exact absurd h1 (nI_ge (show k < n by omega) (by omega))
      · refine j_iload_n 1 dX6_power_9 rfl (j_iload_n 2 dX6_power_10 rfl (j_imul dX6_power_11 (j_istore_n (lv' := [(2, _), (3, _), (0, _), (1, _)]) dX6_power_12 rfl (j_iinc (y := 1) (lv' := [(3, _), (2, _), (0, _), (1, _)]) 1 dX6_power_13 rfl rfl rfl (j_goto (tgt := 4) dX6_power_16 rfl ?_)))))
        rw [pk_mul, nI_1, ← Nat.pow_succ]
        exact JW.locals [0, 1, 2, 3] rfl (ih (k + 1) (by omega))
  refine j_iconst (v := 1) dX6_power_0 rfl (j_istore_n (lv' := [(2, _), (0, _), (1, _)]) dX6_power_1 rfl (j_iconst (v := 0) dX6_power_2 rfl (j_istore_n (lv' := [(3, _), (2, _), (0, _), (1, _)]) dX6_power_3 rfl ?_)))
  exact JW.locals [0, 1, 2, 3] rfl (loop n 0 (by omega))
def facN : Nat → Nat
  | 0 => 1
  | n + 1 => facN n * (n + 1)
theorem c_factorial {g : GT} {Z : ZT} {I : IT} {L : LT} {Post : PT} {n : Nat} (hn : n < 100) (hp : Post (some (.int (nI (facN n)))) Z I L) : CM g 0 0 0 mX6_factorial [.int (nI n)] Z I L Post := by
  refine CM_intro ?_
  have loop : ∀ (m k : Nat), k + m = n + 1 → 1 ≤ k → JW g mX6_factorial (rmO 0 0 0) (QM Post 0 0) 4 [(2, .int (nI (k + 1))), (1, .int (nI (facN k))), (0, .int (nI n))] [] 0 0 Z I L ∨ k = n + 1 := by
    intro m
    induction m with
    | zero => intro k hk _; exact Or.inr (by omega)
    | succ m ih =>
      intro k hk h1
      left
      refine j_iload_n 0 dX6_factorial_4 rfl (j_iload_n 2 dX6_factorial_5 rfl (j_icmp_gt (tgt := 19) dX6_factorial_6 rfl (fun h1 => ?_) (fun h1 => ?_)))
      · have : k = n := by
          rcases Nat.lt_or_ge k n with q | q
          · exact absurd h1 (nI_nlt (show k + 1 ≤ n by omega) (by omega))
          · omega
        subst this
        refine j_iload_n 1 dX6_factorial_19 rfl (j_iret dX6_factorial_20 ?_)
        exact hp
      · have hkn : k < n := by
          rcases Nat.lt_or_ge k n with q | q
          · exact q
          · exact absurd (nI_lt (show n < k + 1 by omega) (by omega)) h1
        refine j_iload_n 1 dX6_factorial_9 rfl (j_iload_n 0 dX6_factorial_10 rfl (j_imul dX6_factorial_11 (j_istore_n (lv' := [(1, _), (2, _), (0, _)]) dX6_factorial_12 rfl (j_iinc (y := 1) (lv' := [(2, _), (1, _), (0, _)]) 1 dX6_factorial_13 rfl rfl rfl (j_goto (tgt := 4) dX6_factorial_16 rfl ?_)))))
        rw [pk_mul, nI_1]
        rcases ih (k + 1) (by omega) (by omega) with q | q
        · exact JW.locals [0, 1, 2] rfl q
        · omega
  refine j_iconst (v := 1) dX6_factorial_0 rfl (j_istore_n (lv' := [(1, _), (0, _)]) dX6_factorial_1 rfl (j_iconst (v := 2) dX6_factorial_2 rfl (j_istore_n (lv' := [(2, _), (1, _), (0, _)]) dX6_factorial_3 rfl ?_)))
  rcases Nat.eq_zero_or_pos n with h | h
  · subst h
    refine j_iload_n 0 dX6_factorial_4 rfl (j_iload_n 2 dX6_factorial_5 rfl (j_icmp_gt (tgt := 19) dX6_factorial_6 rfl (fun h1 => ?_) (fun h1 => ?_)))
    · refine j_iload_n 1 dX6_factorial_19 rfl (j_iret dX6_factorial_20 ?_)
      exact hp
    · exact absurd (by decide) h1
  · rcases loop n 1 (by omega) (by omega) with q | q
    · exact JW.locals [0, 1, 2] rfl q
    · omega
def htN (n : Nat) : Nat := 100000 ^ n
theorem c_hundredT {g : GT} {Z : ZT} {I : IT} {L : LT} {Post : PT} {n : Nat} (hn : n < 100) (hp : Post (some (.long (lN (htN n)))) Z I L) : CM g 0 0 0 mX6_hundredThousands [.int (nI n)] Z I L Post := by
  refine CM_intro ?_
  have loop : ∀ (m k : Nat), k + m = n → JW g mX6_hundredThousands (rmO 0 0 0) (QM Post 0 0) 4 [(3, .int (nI k)), (1, .long (lN (htN k))), (0, .int (nI n))] [] 0 0 Z I L := by
    intro m
    induction m with
    | zero =>
      intro k hk
      have hk : k = n := by omega
      subst hk
      refine j_iload_n 0 dX6_hundredThousands_4 rfl (j_iload_n 2 dX6_hundredThousands_5 rfl (j_icmp_ge (tgt := 21) dX6_hundredThousands_6 rfl (fun h1 => ?_) (fun h1 => ?_)))
      · refine j_lload_n 1 dX6_hundredThousands_21 rfl (j_lret dX6_hundredThousands_22 ?_)
        exact hp
      · exact absurd (Int32.le_refl _) h1
    | succ m ih =>
      intro k hk
      refine j_iload_n 0 dX6_hundredThousands_4 rfl (j_iload_n 2 dX6_hundredThousands_5 rfl (j_icmp_ge (tgt := 21) dX6_hundredThousands_6 rfl (fun h1 => ?_) (fun h1 => ?_)))
      · exact absurd h1 (nI_ge (show k < n by omega) (by omega))
      · refine j_lload_n 1 dX6_hundredThousands_9 rfl (j_ldc2 (v := 100000) dX6_hundredThousands_10 (List.mem_of_getElem? (i := 1022) (by decide +kernel)) (j_lmul dX6_hundredThousands_13 (j_lstore_n (lv' := [(1, _), (3, _), (0, _)]) dX6_hundredThousands_14 rfl (j_iinc (y := 1) (lv' := [(3, _), (1, _), (0, _)]) 1 dX6_hundredThousands_15 rfl rfl rfl (j_goto (tgt := 4) dX6_hundredThousands_18 rfl ?_)))))
        rw [show (100000 : Int64) = lN 100000 from rfl, lN_mul, nI_1, show htN k * 100000 = htN (k + 1) from (Nat.pow_succ _ _).symm]
        exact JW.locals [0, 1, 2] rfl (ih (k + 1) (by omega))
  refine j_lconst (v := 1) dX6_hundredThousands_0 rfl (j_lstore_n (lv' := [(1, _), (0, _)]) dX6_hundredThousands_1 rfl (j_iconst (v := 0) dX6_hundredThousands_2 rfl (j_istore_n (lv' := [(3, _), (1, _), (0, _)]) dX6_hundredThousands_3 rfl ?_)))
  exact JW.locals [0, 1, 2] rfl (loop n 0 (by omega))
end
section
theorem fa_self (I : IT) (a : Nat) : upR I a (I a) = I := by
  funext b
  unfold upR
  split
  · rename_i h; rw [h]
  · rfl
theorem upR_R (I : IT) (a : Nat) (f h : Nat → Int32) : upR (upR I a f) a h = upR I a h := by funext b; unfold upR; split <;> rfl
theorem upd_app (f : Nat → Int32) (k : Nat) (v : Int32) (j : Nat) : upd f k v j = if j = k then v else f j := rfl
theorem c_noParts {g : GT} {Z : ZT} {I : IT} {L : LT} {Post : PT} {a : Nat} (hK : zK Z a = 7) (hL : zL Z a = 47) (hp : Post none Z (upR I a (npF (I a))) L) : CM g 0 0 0 mX6_noParts [.ref a] Z I L Post := by
  refine CM_intro ?_
  refine j_iconst (v := 0) dX6_noParts_0 rfl (j_istore_n (lv' := [(1, _), (0, _)]) dX6_noParts_1 rfl (j_iload_n 0 dX6_noParts_2 rfl (j_iconst (v := 4) dX6_noParts_3 rfl (j_icmp_ge (tgt := 21) dX6_noParts_4 rfl (fun h9 => absurd h9 (by decide)) (fun _ => (j_aload_n 1 dX6_noParts_7 rfl (j_bipush (v := 18) dX6_noParts_8 rfl (j_iload_n 0 dX6_noParts_10 rfl (j_iadd dX6_noParts_11 (j_bipush (v := -9) dX6_noParts_12 rfl (j_iastore 18 dX6_noParts_14 (by first | assumption | rfl) (by first | assumption | rfl) (by omega) (j_iinc (y := 1) (lv' := [(1, _), (0, _)]) 0 dX6_noParts_15 rfl rfl rfl (j_goto (tgt := 2) dX6_noParts_18 rfl (j_iload_n 0 dX6_noParts_2 rfl (j_iconst (v := 4) dX6_noParts_3 rfl (j_icmp_ge (tgt := 21) dX6_noParts_4 rfl (fun h9 => absurd h9 (by decide)) (fun _ => (j_aload_n 1 dX6_noParts_7 rfl (j_bipush (v := 18) dX6_noParts_8 rfl (j_iload_n 0 dX6_noParts_10 rfl (j_iadd dX6_noParts_11 (j_bipush (v := -9) dX6_noParts_12 rfl (j_iastore 19 dX6_noParts_14 (by first | assumption | rfl) (by first | assumption | rfl) (by omega) (j_iinc (y := 1) (lv' := [(1, _), (0, _)]) 0 dX6_noParts_15 rfl rfl rfl (j_goto (tgt := 2) dX6_noParts_18 rfl (j_iload_n 0 dX6_noParts_2 rfl (j_iconst (v := 4) dX6_noParts_3 rfl (j_icmp_ge (tgt := 21) dX6_noParts_4 rfl (fun h9 => absurd h9 (by decide)) (fun _ => (j_aload_n 1 dX6_noParts_7 rfl (j_bipush (v := 18) dX6_noParts_8 rfl (j_iload_n 0 dX6_noParts_10 rfl (j_iadd dX6_noParts_11 (j_bipush (v := -9) dX6_noParts_12 rfl (j_iastore 20 dX6_noParts_14 (by first | assumption | rfl) (by first | assumption | rfl) (by omega) (j_iinc (y := 1) (lv' := [(1, _), (0, _)]) 0 dX6_noParts_15 rfl rfl rfl (j_goto (tgt := 2) dX6_noParts_18 rfl (j_iload_n 0 dX6_noParts_2 rfl (j_iconst (v := 4) dX6_noParts_3 rfl (j_icmp_ge (tgt := 21) dX6_noParts_4 rfl (fun h9 => absurd h9 (by decide)) (fun _ => (j_aload_n 1 dX6_noParts_7 rfl (j_bipush (v := 18) dX6_noParts_8 rfl (j_iload_n 0 dX6_noParts_10 rfl (j_iadd dX6_noParts_11 (j_bipush (v := -9) dX6_noParts_12 rfl (j_iastore 21 dX6_noParts_14 (by first | assumption | rfl) (by first | assumption | rfl) (by omega) (j_iinc (y := 1) (lv' := [(1, _), (0, _)]) 0 dX6_noParts_15 rfl rfl rfl (j_goto (tgt := 2) dX6_noParts_18 rfl (j_iload_n 0 dX6_noParts_2 rfl (j_iconst (v := 4) dX6_noParts_3 rfl (j_icmp_ge (tgt := 21) dX6_noParts_4 rfl (fun _ => (j_vret dX6_noParts_21 ?_)) (fun h9 => absurd (by decide) h9)))))))))))))))))))))))))))))))))))))))))))))))))))))
  simp only [upI, upR_R, upR_s]
  exact hp
theorem c_quiet {g : GT} {Z : ZT} {I : IT} {L : LT} {Post : PT} {a : Nat} (hK : zK Z a = 7) (hL : zL Z a = 47) (hp : Post none Z (upR I a (quF (I a))) L) : CM g 0 0 0 mX6_quiet [.ref a] Z I L Post := by
  refine CM_intro ?_
  refine j_aload_n 0 dX6_quiet_0 rfl (j_bipush (v := 7) dX6_quiet_1 rfl (j_iconst (v := 0) dX6_quiet_3 rfl (j_iastore 7 dX6_quiet_4 (by first | assumption | rfl) (by first | assumption | rfl) (by omega) (j_aload_n 0 dX6_quiet_5 rfl (j_iconst (v := 2) dX6_quiet_6 rfl (j_iconst (v := 0) dX6_quiet_7 rfl (j_iastore 2 dX6_quiet_8 (by first | assumption | rfl) (by first | assumption | rfl) (by omega) (j_vret dX6_quiet_9 ?_))))))))
  simp only [upI, upR_R, upR_s]
  exact hp
theorem c_mLose {g : GT} {Z : ZT} {I : IT} {L : LT} {Post : PT} {a : Nat} (hK : zK Z a = 7) (hL : zL Z a = 47) (hp : Post none Z (upR I a (loF (I a))) L) : CM g 1 0 0 mX6_lose [.ref a] Z I L Post := by
  refine CM_intro ?_
  refine j_aload_n 0 dX6_lose_0 rfl (j_iconst (v := 3) dX6_lose_1 rfl (j_iconst (v := 0) dX6_lose_2 rfl (j_iastore 3 dX6_lose_3 (by first | assumption | rfl) (by first | assumption | rfl) (by omega) (j_aload_n 0 dX6_lose_4 rfl (j_bipush (v := 13) dX6_lose_5 rfl (j_dup2 dX6_lose_7 rfl rfl (j_iaload 13 dX6_lose_8 (by first | assumption | rfl) (by first | assumption | rfl) (by omega) (j_iconst (v := 1) dX6_lose_9 rfl (j_iadd dX6_lose_10 (j_iastore 13 dX6_lose_11 (by first | assumption | rfl) (by first | assumption | rfl) (by omega) (j_aload_n 0 dX6_lose_12 rfl (j_S1 dX6_lose_13 kX6_121 (c_quiet hK hL (j_aload_n 0 dX6_lose_16 rfl (j_S1 dX6_lose_17 kX6_125 (c_noParts hK hL (j_vret dX6_lose_20 ?_)))))))))))))))))
  simp only [upI, upR_R, upR_s, upd_app]
  exact hp
theorem c_resetOn {g : GT} {Z : ZT} {I : IT} {L : LT} {Post : PT} {a : Nat} (hK : zK Z a = 7) (hL : zL Z a = 47) (hp : Post none Z (upR I a (quF (if I a 3 = 1 then loF (I a) else I a))) L) : CM g 2 0 0 mX6_resetOn [.ref a] Z I L Post := by
  refine CM_intro ?_
  refine j_aload_n 0 dX6_resetOn_0 rfl (j_iconst (v := 3) dX6_resetOn_1 rfl (j_iaload 3 dX6_resetOn_2 (by first | assumption | rfl) (by first | assumption | rfl) (by omega) (j_iconst (v := 1) dX6_resetOn_3 rfl (j_icmp_ne (tgt := 11) dX6_resetOn_4 rfl (fun h1 => ?_) (fun h1 => ?_)))))
  · refine j_aload_n 0 dX6_resetOn_11 rfl (j_S1 dX6_resetOn_12 kX6_121 (c_quiet hK hL (j_vret dX6_resetOn_15 ?_)))
    rw [if_neg h1] at hp
    exact hp
  · refine j_aload_n 0 dX6_resetOn_7 rfl (j_S1 dX6_resetOn_8 kX6_153 (c_mLose hK hL (j_aload_n 0 dX6_resetOn_11 rfl (j_S1 dX6_resetOn_12 kX6_121 (c_quiet hK hL (j_vret dX6_resetOn_15 ?_))))))
    rw [if_pos h1] at hp
    simp only [upR_R, upR_s]
    exact hp
theorem fIx_le (p : Nat → Bool) : ∀ n k, k ≤ fIx p n k ∧ fIx p n k ≤ k + n
  | 0, k => ⟨Nat.le_refl _, Nat.le_refl _⟩
  | n + 1, k => by
    unfold fIx
    have := fIx_le p n (k + 1)
    split <;> omega
theorem c_hearOf {g : GT} {Z : ZT} {I : IT} {L : LT} {Post : PT} {a m : Nat} {s : Int32} (hK : zK Z a = 7) (hL : zL Z a = 47) (hm : I a 30 = nI m) (h8 : m ≤ 8) (hp : Post none Z (upR I a (hoF (I a) s)) L) : CM g 1 0 0 mX6_hearOf [.ref a, .int s] Z I L Post := by
  refine CM_intro ?_
  refine j_iload_n 1 dX6_hearOf_0 rfl (j_i2l dX6_hearOf_1 (j_lconst (v := 1) dX6_hearOf_2 rfl (j_ldc2 (v := 204) dX6_hearOf_3 (List.mem_of_getElem? (i := 964) (by decide +kernel)) (j_S3 dX6_hearOf_6 kX6_68 (c_inB 1 204 (by decide) rfl rfl ?_)))))
  refine ⟨fun t h1 h2 e => ?_, fun hn => ?_⟩
  · have hin : 1 ≤ s ∧ s ≤ 204 := by rw [e]; exact ⟨nI_le (a := 1) h1 (by omega), nI_le (b := 204) h2 (by decide)⟩
    unfold hoF at hp
    rw [if_pos hin, hm, nN_nI (show m < 2 ^ 31 by omega)] at hp
    generalize hq : fIx (fun k => decide (I a (31 + k) = s)) m 0 = q at hp
    have hqm : q ≤ m := by have := fIx_le (fun k => decide (I a (31 + k) = s)) m 0; omega
    have fin : JW g mX6_hearOf (rmO 1 0 0) (QM Post 0 0) 39 [(2, .int (nI q)), (0, .ref a), (1, .int s)] [] 0 0 Z I L := by
      refine j_iload_n 0 dX6_hearOf_39 rfl (j_aload_n 1 dX6_hearOf_40 rfl (j_bipush (v := 30) dX6_hearOf_41 rfl (j_iaload 30 dX6_hearOf_43 (by first | assumption | rfl) (by first | assumption | rfl) (by omega) (j_icmp_ge (tgt := 75) dX6_hearOf_44 rfl (fun h3 => ?_) (fun h3 => ?_)))))
      · have hqe : q = m := by
          rcases Nat.lt_or_ge q m with z | z
          · rw [hm] at h3; exact absurd h3 (nI_ge z (by omega))
          · omega
        subst hqe
        rw [if_neg (Nat.lt_irrefl q)] at hp
        refine j_iload_n 0 dX6_hearOf_75 rfl (j_bipush (v := 8) dX6_hearOf_76 rfl (j_icmp_ge (tgt := 103) dX6_hearOf_78 rfl (fun h4 => ?_) (fun h4 => ?_)))
        · have : ¬ q < 8 := fun z => absurd h4 (nI_ge z (by decide))
          rw [if_neg this] at hp
          rw [fa_self] at hp
          refine j_vret dX6_hearOf_103 ?_
          exact hp
        · have hlt : q < 8 := by
            rcases Nat.lt_or_ge q 8 with z | z
            · exact z
            · exact absurd (nI_le z (by omega)) h4
          rw [if_pos hlt] at hp
          refine j_aload_n 1 dX6_hearOf_81 rfl (j_bipush (v := 31) dX6_hearOf_82 rfl (j_iload_n 0 dX6_hearOf_84 rfl (j_iadd dX6_hearOf_85 (j_iload_n 2 dX6_hearOf_86 rfl (j_iastore (31 + q) dX6_hearOf_87 (nI_add 31 q) (by first | assumption | rfl) (by omega) (j_aload_n 1 dX6_hearOf_88 rfl (j_bipush (v := 39) dX6_hearOf_89 rfl (j_iload_n 0 dX6_hearOf_91 rfl (j_iadd dX6_hearOf_92 (j_iconst (v := 1) dX6_hearOf_93 rfl (j_iastore (39 + q) dX6_hearOf_94 (nI_add 39 q) (by first | assumption | rfl) (by omega) (j_aload_n 1 dX6_hearOf_95 rfl (j_bipush (v := 30) dX6_hearOf_96 rfl (j_dup2 dX6_hearOf_98 rfl rfl (j_iaload 30 dX6_hearOf_99 (by first | assumption | rfl) (by first | assumption | rfl) (by omega) (j_iconst (v := 1) dX6_hearOf_100 rfl (j_iadd dX6_hearOf_101 (j_iastore 30 dX6_hearOf_102 (by first | assumption | rfl) (by first | assumption | rfl) (by omega) (j_vret dX6_hearOf_103 ?_)))))))))))))))))))
          simp only [upI, upR_R, upR_s, upd_app, if_neg (show ¬ 30 = 39 + q by omega), if_neg (show ¬ 30 = 31 + q by omega)]
          rw [hm]
          exact hp
      · have hlt : q < m := by
          rcases Nat.lt_or_ge q m with z | z
          · exact z
          · exact absurd (by rw [hm]; exact nI_le z (by omega)) h3
        rw [if_pos hlt] at hp
        refine j_aload_n 1 dX6_hearOf_47 rfl (j_bipush (v := 39) dX6_hearOf_48 rfl (j_iload_n 0 dX6_hearOf_50 rfl (j_iadd dX6_hearOf_51 (j_dup2 dX6_hearOf_52 rfl rfl (j_iaload (39 + q) dX6_hearOf_53 (nI_add 39 q) (by first | assumption | rfl) (by omega) (j_aload_n 1 dX6_hearOf_54 rfl (j_bipush (v := 39) dX6_hearOf_55 rfl (j_iload_n 0 dX6_hearOf_57 rfl (j_iadd dX6_hearOf_58 (j_iaload (39 + q) dX6_hearOf_59 (nI_add 39 q) (by first | assumption | rfl) (by omega) (j_bipush (v := 99) dX6_hearOf_60 rfl (j_icmp_ge (tgt := 69) dX6_hearOf_62 rfl (fun h4 => ?_) (fun h4 => ?_)))))))))))))
        · rw [if_neg (Int32.not_lt.mpr h4)] at hp
          refine j_iconst (v := 0) dX6_hearOf_69 rfl (j_iadd dX6_hearOf_70 (j_iastore (39 + q) dX6_hearOf_71 (nI_add 39 q) (by first | assumption | rfl) (by omega) (j_goto (tgt := 103) dX6_hearOf_72 rfl (j_vret dX6_hearOf_103 ?_))))
          exact hp
        · rw [if_pos (Int32.not_le.mp h4)] at hp
          refine j_iconst (v := 1) dX6_hearOf_65 rfl (j_goto (tgt := 70) dX6_hearOf_66 rfl (j_iadd dX6_hearOf_70 (j_iastore (39 + q) dX6_hearOf_71 (nI_add 39 q) (by first | assumption | rfl) (by omega) (j_goto (tgt := 103) dX6_hearOf_72 rfl (j_vret dX6_hearOf_103 ?_)))))
          exact hp
    have loop : ∀ (n k : Nat), k + n = m → fIx (fun k => decide (I a (31 + k) = s)) n k = q → JW g mX6_hearOf (rmO 1 0 0) (QM Post 0 0) 15 [(2, .int (nI k)), (0, .ref a), (1, .int s)] [] 0 0 Z I L := by
      intro n
      induction n with
      | zero =>
        intro k hk hf
        have hf : k = q := hf
        subst hf
        refine j_iload_n 0 dX6_hearOf_15 rfl (j_aload_n 1 dX6_hearOf_16 rfl (j_bipush (v := 30) dX6_hearOf_17 rfl (j_iaload 30 dX6_hearOf_19 (by first | assumption | rfl) (by first | assumption | rfl) (by omega) (j_icmp_ge (tgt := 39) dX6_hearOf_20 rfl (fun h3 => ?_) (fun h3 => ?_)))))
        · exact fin
        · exact absurd (by rw [hm]; exact nI_le (by omega) (by omega)) h3
      | succ n ih =>
        intro k hk hf
        refine j_iload_n 0 dX6_hearOf_15 rfl (j_aload_n 1 dX6_hearOf_16 rfl (j_bipush (v := 30) dX6_hearOf_17 rfl (j_iaload 30 dX6_hearOf_19 (by first | assumption | rfl) (by first | assumption | rfl) (by omega) (j_icmp_ge (tgt := 39) dX6_hearOf_20 rfl (fun h3 => ?_) (fun h3 => ?_)))))
        · rw [hm] at h3
          exact absurd h3 (nI_ge (by omega) (by omega))
        · refine j_aload_n 1 dX6_hearOf_23 rfl (j_bipush (v := 31) dX6_hearOf_24 rfl (j_iload_n 0 dX6_hearOf_26 rfl (j_iadd dX6_hearOf_27 (j_iaload (31 + k) dX6_hearOf_28 (nI_add 31 k) (by first | assumption | rfl) (by omega) (j_iload_n 2 dX6_hearOf_29 rfl (j_icmp_eq (tgt := 39) dX6_hearOf_30 rfl (fun h4 => ?_) (fun h4 => ?_)))))))
          · unfold fIx at hf
            rw [if_pos (by simpa using h4)] at hf
            subst hf
            exact fin
          · unfold fIx at hf
            rw [if_neg (by simpa using h4)] at hf
            refine j_iinc (y := 1) (lv' := [(2, _), (0, _), (1, _)]) 0 dX6_hearOf_33 rfl rfl rfl (j_goto (tgt := 15) dX6_hearOf_36 rfl ?_)
            rw [nI_1]
            exact JW.locals [0, 1, 2] rfl (ih (k + 1) (by omega) hf)
    refine j_if_ne (tgt := 13) dX6_hearOf_9 rfl (fun _ => (j_iconst (v := 0) dX6_hearOf_13 rfl (j_istore_n (lv' := [(2, _), (0, _), (1, _)]) dX6_hearOf_14 rfl ?_))) (fun h9 => absurd h9 (by decide))
    exact JW.locals [0, 1, 2] rfl (loop m 0 (by omega) hq)
  · have hno : ¬ (1 ≤ s ∧ s ≤ 204) := by
      intro z
      rw [i32_le, i32_le] at z
      obtain ⟨t, g1, g2, g3⟩ := bt_t (a := 1) (b := 204) (x := s) (by decide) z.1 z.2
      exact hn t g1 g2 g3
    refine j_if_ne (tgt := 13) dX6_hearOf_9 rfl (fun h9 => absurd (by decide) h9) (fun _ => (j_vret dX6_hearOf_12 ?_))
    unfold hoF at hp
    rw [if_neg hno, fa_self] at hp
    exact hp
theorem c_takeFlag {g : GT} {Z : ZT} {I : IT} {L : LT} {Post : PT} {a : Nat} {f : Int32} (hK : zK Z a = 7) (hL : zL Z a = 47) (hp : Post none Z (upR I a (tfF (I a) f)) L) : CM g 0 0 0 mX6_takeFlag [.ref a, .int f] Z I L Post := by
  refine CM_intro ?_
  unfold tfF at hp
  refine j_aload_n 0 dX6_takeFlag_0 rfl (j_bipush (v := 17) dX6_takeFlag_1 rfl (j_iaload 17 dX6_takeFlag_3 (by first | assumption | rfl) (by first | assumption | rfl) (by omega) (j_iload_n 1 dX6_takeFlag_4 rfl (j_icmp_eq (tgt := 42) dX6_takeFlag_5 rfl (fun h1 => ?_) (fun h1 => ?_)))))
  · refine j_vret dX6_takeFlag_42 ?_
    rw [if_pos h1, fa_self] at hp
    exact hp
  · refine j_aload_n 0 dX6_takeFlag_8 rfl (j_bipush (v := 17) dX6_takeFlag_9 rfl (j_iload_n 1 dX6_takeFlag_11 rfl (j_iastore 17 dX6_takeFlag_12 (by first | assumption | rfl) (by first | assumption | rfl) (by omega) (j_iconst (v := 0) dX6_takeFlag_13 rfl (j_istore_n (lv' := [(2, _), (0, _), (1, _)]) dX6_takeFlag_14 rfl (j_iload_n 0 dX6_takeFlag_15 rfl (j_iconst (v := 4) dX6_takeFlag_16 rfl (j_icmp_ge (tgt := 42) dX6_takeFlag_17 rfl (fun h9 => absurd h9 (by decide)) (fun _ => (j_aload_n 1 dX6_takeFlag_20 rfl (j_bipush (v := 22) dX6_takeFlag_21 rfl (j_iload_n 0 dX6_takeFlag_23 rfl (j_iadd dX6_takeFlag_24 (j_bipush (v := -9) dX6_takeFlag_25 rfl (j_iastore 22 dX6_takeFlag_27 (by first | assumption | rfl) (by first | assumption | rfl) (by omega) (j_aload_n 1 dX6_takeFlag_28 rfl (j_bipush (v := 26) dX6_takeFlag_29 rfl (j_iload_n 0 dX6_takeFlag_31 rfl (j_iadd dX6_takeFlag_32 (j_bipush (v := -9) dX6_takeFlag_33 rfl (j_iastore 26 dX6_takeFlag_35 (by first | assumption | rfl) (by first | assumption | rfl) (by omega) (j_iinc (y := 1) (lv' := [(2, _), (0, _), (1, _)]) 0 dX6_takeFlag_36 rfl rfl rfl (j_goto (tgt := 15) dX6_takeFlag_39 rfl (j_iload_n 0 dX6_takeFlag_15 rfl (j_iconst (v := 4) dX6_takeFlag_16 rfl (j_icmp_ge (tgt := 42) dX6_takeFlag_17 rfl (fun h9 => absurd h9 (by decide)) (fun _ => (j_aload_n 1 dX6_takeFlag_20 rfl (j_bipush (v := 22) dX6_takeFlag_21 rfl (j_iload_n 0 dX6_takeFlag_23 rfl (j_iadd dX6_takeFlag_24 (j_bipush (v := -9) dX6_takeFlag_25 rfl (j_iastore 23 dX6_takeFlag_27 (by first | assumption | rfl) (by first | assumption | rfl) (by omega) (j_aload_n 1 dX6_takeFlag_28 rfl (j_bipush (v := 26) dX6_takeFlag_29 rfl (j_iload_n 0 dX6_takeFlag_31 rfl (j_iadd dX6_takeFlag_32 (j_bipush (v := -9) dX6_takeFlag_33 rfl (j_iastore 27 dX6_takeFlag_35 (by first | assumption | rfl) (by first | assumption | rfl) (by omega) (j_iinc (y := 1) (lv' := [(2, _), (0, _), (1, _)]) 0 dX6_takeFlag_36 rfl rfl rfl (j_goto (tgt := 15) dX6_takeFlag_39 rfl (j_iload_n 0 dX6_takeFlag_15 rfl (j_iconst (v := 4) dX6_takeFlag_16 rfl (j_icmp_ge (tgt := 42) dX6_takeFlag_17 rfl (fun h9 => absurd h9 (by decide)) (fun _ => (j_aload_n 1 dX6_takeFlag_20 rfl (j_bipush (v := 22) dX6_takeFlag_21 rfl (j_iload_n 0 dX6_takeFlag_23 rfl (j_iadd dX6_takeFlag_24 (j_bipush (v := -9) dX6_takeFlag_25 rfl (j_iastore 24 dX6_takeFlag_27 (by first | assumption | rfl) (by first | assumption | rfl) (by omega) (j_aload_n 1 dX6_takeFlag_28 rfl (j_bipush (v := 26) dX6_takeFlag_29 rfl (j_iload_n 0 dX6_takeFlag_31 rfl (j_iadd dX6_takeFlag_32 (j_bipush (v := -9) dX6_takeFlag_33 rfl (j_iastore 28 dX6_takeFlag_35 (by first | assumption | rfl) (by first | assumption | rfl) (by omega) (j_iinc (y := 1) (lv' := [(2, _), (0, _), (1, _)]) 0 dX6_takeFlag_36 rfl rfl rfl (j_goto (tgt := 15) dX6_takeFlag_39 rfl (j_iload_n 0 dX6_takeFlag_15 rfl (j_iconst (v := 4) dX6_takeFlag_16 rfl (j_icmp_ge (tgt := 42) dX6_takeFlag_17 rfl (fun h9 => absurd h9 (by decide)) (fun _ => (j_aload_n 1 dX6_takeFlag_20 rfl (j_bipush (v := 22) dX6_takeFlag_21 rfl (j_iload_n 0 dX6_takeFlag_23 rfl (j_iadd dX6_takeFlag_24 (j_bipush (v := -9) dX6_takeFlag_25 rfl (j_iastore 25 dX6_takeFlag_27 (by first | assumption | rfl) (by first | assumption | rfl) (by omega) (j_aload_n 1 dX6_takeFlag_28 rfl (j_bipush (v := 26) dX6_takeFlag_29 rfl (j_iload_n 0 dX6_takeFlag_31 rfl (j_iadd dX6_takeFlag_32 (j_bipush (v := -9) dX6_takeFlag_33 rfl (j_iastore 29 dX6_takeFlag_35 (by first | assumption | rfl) (by first | assumption | rfl) (by omega) (j_iinc (y := 1) (lv' := [(2, _), (0, _), (1, _)]) 0 dX6_takeFlag_36 rfl rfl rfl (j_goto (tgt := 15) dX6_takeFlag_39 rfl (j_iload_n 0 dX6_takeFlag_15 rfl (j_iconst (v := 4) dX6_takeFlag_16 rfl (j_icmp_ge (tgt := 42) dX6_takeFlag_17 rfl (fun _ => (j_vret dX6_takeFlag_42 ?_)) (fun h9 => absurd (by decide) h9)))))))))))))))))))))))))))))))))))))))))))))))))))))))))))))))))))))))))))))))))
    rw [if_neg h1] at hp
    simp only [upI, upR_R, upR_s]
    exact hp
theorem c_takePair {g : GT} {Z : ZT} {I : IT} {L : LT} {Post : PT} {a pl : Nat} {x : Int32} (hK : zK Z a = 7) (hL : zL Z a = 47) (h4 : pl < 4) (hp : Post none Z (upR I a (tpF (I a) pl x)) L) : CM g 0 0 0 mX6_takePair [.ref a, .int (nI pl), .int x] Z I L Post := by
  refine CM_intro ?_
  unfold tpF at hp
  refine j_aload_n 0 dX6_takePair_0 rfl (j_bipush (v := 26) dX6_takePair_1 rfl (j_iload_n 1 dX6_takePair_3 rfl (j_iadd dX6_takePair_4 (j_iaload (26 + pl) dX6_takePair_5 (nI_add 26 pl) (by first | assumption | rfl) (by omega) (j_iload_n 2 dX6_takePair_6 rfl (j_icmp_ne (tgt := 17) dX6_takePair_7 rfl (fun h1 => ?_) (fun h1 => ?_)))))))
  · refine j_aload_n 0 dX6_takePair_17 rfl (j_bipush (v := 26) dX6_takePair_18 rfl (j_iload_n 1 dX6_takePair_20 rfl (j_iadd dX6_takePair_21 (j_iload_n 2 dX6_takePair_22 rfl (j_iastore (26 + pl) dX6_takePair_23 (nI_add 26 pl) (by first | assumption | rfl) (by omega) (j_vret dX6_takePair_24 ?_))))))
    rw [if_neg h1] at hp
    exact hp
  · refine j_aload_n 0 dX6_takePair_10 rfl (j_bipush (v := 22) dX6_takePair_11 rfl (j_iload_n 1 dX6_takePair_13 rfl (j_iadd dX6_takePair_14 (j_iload_n 2 dX6_takePair_15 rfl (j_iastore (22 + pl) dX6_takePair_16 (nI_add 22 pl) (by first | assumption | rfl) (by omega) (j_aload_n 0 dX6_takePair_17 rfl (j_bipush (v := 26) dX6_takePair_18 rfl (j_iload_n 1 dX6_takePair_20 rfl (j_iadd dX6_takePair_21 (j_iload_n 2 dX6_takePair_22 rfl (j_iastore (26 + pl) dX6_takePair_23 (nI_add 26 pl) (by first | assumption | rfl) (by omega) (j_vret dX6_takePair_24 ?_))))))))))))
    rw [if_pos h1] at hp
    simp only [upI, upR_R, upR_s]
    exact hp
end
section
theorem fIx_no (p : Nat → Bool) : ∀ n k i, k ≤ i → i < fIx p n k → p i = false
  | 0, k, i, h1, h2 => absurd h2 (Nat.not_lt.mpr h1)
  | n + 1, k, i, h1, h2 => by
    unfold fIx at h2
    split at h2
    · omega
    · rename_i h
      rcases Nat.eq_or_lt_of_le h1 with e | e
      · subst e; simpa using h
      · exact fIx_no p n (k + 1) i e h2
theorem fIx_yes (p : Nat → Bool) : ∀ n k, fIx p n k < k + n → p (fIx p n k) = true
  | 0, k, h => absurd h (Nat.lt_irrefl _)
  | n + 1, k, h => by
    unfold fIx at h ⊢
    split
    · rename_i hp; exact hp
    · rename_i hp
      rw [if_neg hp] at h
      exact fIx_yes p n (k + 1) (by omega)
theorem l1F_n {ρ : RT} {j : Nat} (h1 : j ≠ 14) (h2 : j ≠ 15) : l1F ρ j = ρ j := by
  unfold l1F
  split
  · rfl
  · rw [upd_n h2, upd_n h1]
theorem hoF_n {ρ : RT} {s : Int32} {j : Nat} (h : j < 30) : hoF ρ s j = ρ j := by
  unfold hoF
  split
  · split
    · rw [upd_n (by omega)]
    · split
      · rw [upd_n (by omega), upd_n (by omega), upd_n (by omega)]
      · rfl
  · rfl
theorem tfF_n {ρ : RT} {f : Int32} {j : Nat} (h : j < 17 ∨ 18 ≤ j ∧ j < 22 ∨ 30 ≤ j) : tfF ρ f j = ρ j := by
  unfold tfF
  split
  · rfl
  · rw [upd_n (by omega), upd_n (by omega), upd_n (by omega), upd_n (by omega), upd_n (by omega), upd_n (by omega), upd_n (by omega), upd_n (by omega), upd_n (by omega)]
theorem tpF_n {ρ : RT} {pl : Nat} {x : Int32} {j : Nat} (hp : pl < 4) (h : j < 22 ∨ 30 ≤ j) : tpF ρ pl x j = ρ j := by
  unfold tpF
  split
  · rw [upd_n (by omega), upd_n (by omega)]
  · rw [upd_n (by omega)]
theorem l2F_n {ρ : RT} {j : Nat} (h : j < 16 ∨ 18 ≤ j ∧ j < 22) : l2F ρ j = ρ j := by
  unfold l2F
  split
  · rfl
  · split
    · split
      · exact tpF_n (Nat.mod_lt _ (by decide)) (by omega)
      · rfl
    · split
      · split
        · rw [upd_n (by omega)]
        · rfl
      · split
        · rw [hoF_n (by omega), hoF_n (by omega)]
        · exact tfF_n (by omega)
theorem laF_n {ρ : RT} {j : Nat} (h : j < 14 ∨ 18 ≤ j ∧ j < 22) : laF ρ j = ρ j := by
  unfold laF
  rw [l2F_n (by omega), l1F_n (by omega) (by omega)]
/-- THE LIST in a row -/
def OKL (ρ : RT) : Prop := ∃ m, m ≤ 8 ∧ ρ 30 = nI m ∧ (∀ k, k < m → ∃ t, 1 ≤ t ∧ t ≤ 99 ∧ ρ (39 + k) = nI t) ∧ (∀ i j, i < j → j < m → ρ (31 + i) ≠ ρ (31 + j))
theorem OKL.cong {ρ σ : RT} (h : OKL ρ) (e : ∀ j, 30 ≤ j → σ j = ρ j) : OKL σ := by
  obtain ⟨m, h1, h2, h3, h4⟩ := h
  exact ⟨m, h1, by rw [e 30 (by omega)]; exact h2, fun k hk => by rw [e _ (by omega)]; exact h3 k hk, fun i j hi hj => by rw [e _ (by omega), e _ (by omega)]; exact h4 i j hi hj⟩
theorem OKL.ho {ρ : RT} (s : Int32) (h : OKL ρ) : OKL (hoF ρ s) := by
  obtain ⟨m, h1, h2, h3, h4⟩ := id h
  unfold hoF
  split
  · rw [h2, nN_nI (show m < 2 ^ 31 by omega)]
    generalize hq : fIx (fun k => decide (ρ (31 + k) = s)) m 0 = q
    have hle := fIx_le (fun k => decide (ρ (31 + k) = s)) m 0
    have hno := fIx_no (fun k => decide (ρ (31 + k) = s)) m 0
    rw [hq] at hle hno
    split
    · rename_i hlt
      refine ⟨m, h1, by rw [upd_n (by omega)]; exact h2, fun k hk => ?_, fun i j hi hj => by rw [upd_n (by omega), upd_n (by omega)]; exact h4 i j hi hj⟩
      by_cases hkq : k = q
      · subst hkq
        rw [upd_s]
        obtain ⟨t, t1, t2, t3⟩ := h3 k hk
        rw [t3]
        split
        · rename_i h99
          have : t < 99 := by
            rcases Nat.lt_or_ge t 99 with z | z
            · exact z
            · exact absurd h99 (nI_nlt (b := 99) z (by omega))
          exact ⟨t + 1, by omega, by omega, nI_1 t⟩
        · exact ⟨t, t1, t2, nI_add t 0⟩
      · rw [upd_n (by omega)]
        exact h3 k hk
    · rename_i hlt
      have hqm : q = m := by omega
      split
      · rename_i h8
        refine ⟨m + 1, by omega, by rw [upd_s, nI_1], fun k hk => ?_, fun i j hi hj => ?_⟩
        · rw [upd_n (by omega)]
          by_cases hkm : k = m
          · subst hkm
            rw [upd_s]
            exact ⟨1, by omega, by omega, rfl⟩
          · rw [upd_n (by omega), upd_n (by omega)]
            exact h3 k (by omega)
        · rw [upd_n (by omega), upd_n (by omega), upd_n (by omega), upd_n (by omega)]
          by_cases hjm : j = m
          · subst hjm
            rw [upd_n (by omega), upd_s]
            have := hno i (by omega) (by omega)
            simpa using this
          · rw [upd_n (by omega), upd_n (by omega)]
            exact h4 i j hi (by omega)
      · exact h
  · exact h
theorem OKL.l2 {ρ : RT} (h : OKL ρ) : OKL (l2F ρ) := by
  unfold l2F
  split
  · exact h
  · split
    · split
      · exact h.cong (fun j hj => tpF_n (Nat.mod_lt _ (by decide)) (by omega))
      · exact h
    · split
      · split
        · exact h.cong (fun j hj => by rw [upd_n (by omega)])
        · exact h
      · split
        · exact (h.ho _).ho _
        · exact h.cong (fun j hj => tfF_n (by omega))
theorem OKL.la {ρ : RT} (h : OKL ρ) : OKL (laF ρ) := OKL.l2 (h.cong (fun j hj => l1F_n (by omega) (by omega)))
def OKp (ρ : RT) : Prop := ∀ k, k < 4 → ρ (18 + k) = -9 ∨ ∃ p, p < 256 ∧ ρ (18 + k) = nI p
/-- what always holds of a row -/
def OKr (hold : Nat) (ρ : RT) : Prop := (∃ w, w < 16384 ∧ ρ 1 = nI w) ∧ (ρ 3 = 0 ∨ ρ 3 = 1) ∧ (∃ d, d < 4 ∧ ρ 4 = nI d) ∧ (∃ p, p < 14 ∧ ρ 5 = nI p) ∧ (ρ 3 = 1 → ∃ b, b < hold ∧ ρ 6 = nI b) ∧ (ρ 7 = 0 ∨ ρ 7 = 1) ∧ (∃ k, k < 4 ∧ ρ 9 = nI k) ∧ OKp ρ ∧ OKL ρ
/-- rows alike but at some places -/
theorem OKr.la {hold : Nat} {ρ : RT} (h : OKr hold ρ) : OKr hold (laF ρ) := by
  obtain ⟨h1, h2, h3, h4, h5, h6, h7, h8, h9⟩ := h
  refine ⟨?_, ?_, ?_, ?_, ?_, ?_, ?_, ?_, h9.la⟩
  · rw [laF_n (by omega)]; exact h1
  · rw [laF_n (by omega)]; exact h2
  · rw [laF_n (by omega)]; exact h3
  · rw [laF_n (by omega)]; exact h4
  · rw [laF_n (by omega), laF_n (by omega)]; exact h5
  · rw [laF_n (by omega)]; exact h6
  · rw [laF_n (by omega)]; exact h7
  · intro k hk; rw [laF_n (by omega)]; exact h8 k hk
theorem npF_n {ρ : RT} {j : Nat} (h : j < 18 ∨ 22 ≤ j) : npF ρ j = ρ j := by unfold npF; rw [upd_n (by omega), upd_n (by omega), upd_n (by omega), upd_n (by omega)]
theorem npF_k {ρ : RT} {k : Nat} (h : k < 4) : npF ρ (18 + k) = -9 := by
  rcases (show k = 0 ∨ k = 1 ∨ k = 2 ∨ k = 3 by omega) with rfl | rfl | rfl | rfl <;> rfl
theorem cpF_n {ρ : RT} {d j : Nat} (h : j < 18 ∨ 22 ≤ j) : cpF d ρ j = ρ j := by unfold cpF; split; exact npF_n h; rfl
theorem OKp.np {ρ : RT} : OKp (npF ρ) := fun k hk => Or.inl (npF_k hk)
theorem OKp.cp {ρ : RT} {d : Nat} (h : OKp ρ) : OKp (cpF d ρ) := by unfold cpF; split; exact OKp.np; exact h
theorem OKp.cong {ρ σ : RT} (h : OKp ρ) (e : ∀ k, k < 4 → σ (18 + k) = ρ (18 + k)) : OKp σ := fun k hk => by rw [e k hk]; exact h k hk
theorem OKp.set {ρ : RT} (h : OKp ρ) {d p : Nat} (hd : d < 4) (hp : p < 256) : OKp (upd ρ (18 + d) (nI p)) := fun k hk => by
  by_cases e : k = d
  · subst e; rw [upd_s]; exact Or.inr ⟨p, hp, rfl⟩
  · rw [upd_n (by omega)]; exact h k hk
theorem OKp.gone {ρ : RT} (h : OKp ρ) {d : Nat} : OKp (upd ρ (18 + d) (-9)) := fun k hk => by
  by_cases e : k = d
  · subst e; rw [upd_s]; exact Or.inl rfl
  · rw [upd_n (by omega)]; exact h k hk
theorem hitN_le (c : CT) (w : Nat) : hitN c w ≤ 4 := by have := fIx_le (fun k => decide (c.2.1 k = lfN c.1 w)) 4 0; unfold hitN; omega
theorem OKr.b1 {hold : Nat} {ρ : RT} (h : OKr hold ρ) (b : Nat) : OKr hold (b1F ρ b) := by
  obtain ⟨h1, h2, h3, h4, h5, h6, h7, h8, h9⟩ := h
  unfold b1F
  refine ⟨⟨_, Nat.mod_lt _ (by decide), rfl⟩, h2, h3, h4, h5, h6, h7, h8.cong (fun k hk => ?_), h9.cong (fun j hj => ?_)⟩
  · rw [upd_n (by omega), upd_n (by omega), upd_n (by omega)]
  · rw [upd_n (by omega), upd_n (by omega), upd_n (by omega)]
theorem OKr.sk {c : CT} {ρ : RT} (hh : 1 ≤ c.2.2.1) (h : OKr c.2.2.1 ρ) : OKr c.2.2.1 (skF c ρ) := by
  obtain ⟨⟨w, hw, ew⟩, h2, h3, h4, h5, h6, h7, h8, h9⟩ := id h
  have hle := hitN_le c (nN (ρ 1))
  unfold skF
  split
  · exact h
  · rename_i hn
    have hlt : hitN c (nN (ρ 1)) < 4 := by
      have : ¬ hitN c (nN (ρ 1)) = 4 := fun z => hn (Or.inr z)
      omega
    generalize hitN c (nN (ρ 1)) = k at hlt ⊢
    split
    · have key : OKr c.2.2.1 (upd (upd (npF (upd (upd (upd (upd ρ 3 1) 4 (nI ((k + 1) % 4))) 5 0) 6 0)) 10 (ρ 10 + 1)) (18 + k) (nI (nN (ρ 1) / 64))) := by
        refine ⟨⟨w, hw, ?_⟩, ?_, ⟨(k + 1) % 4, Nat.mod_lt _ (by decide), ?_⟩, ⟨0, by decide, ?_⟩, fun _ => ⟨0, by omega, ?_⟩, ?_, ?_, ?_, h9.cong (fun j hj => ?_)⟩
        · rw [upd_n (by omega), upd_n (by omega), npF_n (by omega)]; exact ew
        · rw [upd_n (by omega), upd_n (by omega), npF_n (by omega)]; exact Or.inr rfl
        · rw [upd_n (by omega), upd_n (by omega), npF_n (by omega)]; rfl
        · rw [upd_n (by omega), upd_n (by omega), npF_n (by omega)]; rfl
        · rw [upd_n (by omega), upd_n (by omega), npF_n (by omega)]; rfl
        · rw [upd_n (by omega), upd_n (by omega), npF_n (by omega)]; exact h6
        · rw [upd_n (by omega), upd_n (by omega), npF_n (by omega)]; exact h7
        · rw [ew, nN_nI (by omega)]
          exact OKp.set (OKp.cong OKp.np (fun k hk => upd_n (by omega))) hlt (by omega)
        · rw [upd_n (by omega), upd_n (by omega), npF_n (by omega), upd_n (by omega), upd_n (by omega), upd_n (by omega), upd_n (by omega)]
      show OKr c.2.2.1 (if k = 3 then laF _ else _)
      split
      · exact key.la
      · exact key
    · refine ⟨⟨w, hw, ew⟩, h2, h3, h4, h5, Or.inr rfl, ⟨k, hlt, rfl⟩, h8.cong (fun j hj => ?_), h9.cong (fun j hj => ?_)⟩
      · rw [upd_n (by omega), upd_n (by omega), upd_n (by omega)]
      · rw [upd_n (by omega), upd_n (by omega), upd_n (by omega)]
theorem OKr.nx {hold : Nat} {ρ : RT} (k : Nat) (h : OKr hold ρ) : OKr hold (nxF k ρ) := by
  have h2 : OKr hold (if k = 3 then laF ρ else ρ) := by split; exact h.la; exact h
  unfold nxF
  generalize (if k = 3 then laF ρ else ρ) = σ at h2 ⊢
  obtain ⟨h1, h2, h3, h4, h5, h6, h7, h8, h9⟩ := h2
  exact ⟨h1, h2, ⟨(k + 1) % 4, Nat.mod_lt _ (by decide), rfl⟩, h4, h5, h6, h7, h8.cong (fun j hj => upd_n (by omega)), h9.cong (fun j hj => upd_n (by omega))⟩
theorem OKr.lo {hold hold' : Nat} {ρ : RT} (h : OKr hold ρ ∨ (OKr hold (upd ρ 6 0))) : OKr hold' (loF ρ) := by
  have : (∃ w, w < 16384 ∧ ρ 1 = nI w) ∧ (∃ d, d < 4 ∧ ρ 4 = nI d) ∧ (∃ p, p < 14 ∧ ρ 5 = nI p) ∧ (∃ k, k < 4 ∧ ρ 9 = nI k) ∧ OKL ρ := by
    rcases h with ⟨h1, h2, h3, h4, h5, h6, h7, h8, h9⟩ | ⟨h1, h2, h3, h4, h5, h6, h7, h8, h9⟩
    · exact ⟨h1, h3, h4, h7, h9⟩
    · exact ⟨h1, h3, h4, h7, h9.cong (fun j hj => (upd_n (by omega)).symm)⟩
  obtain ⟨h1, h3, h4, h7, h9⟩ := this
  unfold loF quF
  refine ⟨?_, ?_, ?_, ?_, ?_, ?_, ?_, OKp.np, h9.cong (fun j hj => ?_)⟩
  · rw [npF_n (by omega)]; exact h1
  · rw [npF_n (by omega)]; exact Or.inl rfl
  · rw [npF_n (by omega)]; exact h3
  · rw [npF_n (by omega)]; exact h4
  · rw [npF_n (by omega)]; intro z; exact absurd (show (0 : Int32) = 1 from z) (by decide)
  · rw [npF_n (by omega)]; exact Or.inl rfl
  · rw [npF_n (by omega)]; exact h7
  · rw [npF_n (by omega), upd_n (by omega), upd_n (by omega), upd_n (by omega), upd_n (by omega)]
theorem OKr.bl {c : CT} {ρ : RT} (hh : 1 ≤ c.2.2.1) (h9c : c.2.2.1 ≤ 9) (hg : c.1 < 64) (ho : ∀ k, k < 4 → c.2.1 k < 64) (hs : ∀ r, r < 64 → c.2.2.2 r < 16384) (h : OKr c.2.2.1 ρ) (h3 : ρ 3 = 1) : OKr c.2.2.1 (blF c ρ) := by
  obtain ⟨⟨w, hw, ew⟩, h2, ⟨d, hd, ed⟩, h4, h5, h6, h7, h8, h9⟩ := id h
  obtain ⟨b, hb, eb⟩ := h5 h3
  unfold blF
  rw [ew, ed, nN_nI (show w < 2 ^ 31 by omega), nN_nI (show d < 2 ^ 31 by omega)]
  have hx : lfN c.1 (w ^^^ c.2.1 d) < 64 := lfN_lt hg (xor_lt14 hw (Nat.lt_trans (ho d hd) (by decide)))
  generalize lfN c.1 (w ^^^ c.2.1 d) = x at hx ⊢
  split
  · refine OKr.nx _ ⟨⟨w, hw, ?_⟩, ?_, ⟨d, hd, ?_⟩, ?_, fun _ => ⟨0, by omega, ?_⟩, ?_, ?_, ?_, h9.cong (fun j hj => ?_)⟩
    · rw [upd_n (by omega), upd_n (by omega), upd_n (by omega), cpF_n (by omega)]; exact ew
    · rw [upd_n (by omega), upd_n (by omega), upd_n (by omega), cpF_n (by omega)]; exact h2
    · rw [upd_n (by omega), upd_n (by omega), upd_n (by omega), cpF_n (by omega)]; exact ed
    · rw [upd_n (by omega), upd_n (by omega), upd_n (by omega), cpF_n (by omega)]; exact h4
    · rw [upd_n (by omega)]; rfl
    · rw [upd_n (by omega), upd_n (by omega), upd_n (by omega), cpF_n (by omega)]; exact h6
    · rw [upd_n (by omega), upd_n (by omega), upd_n (by omega), cpF_n (by omega)]; exact h7
    · exact OKp.set (h8.cp.cong (fun k hk => by rw [upd_n (by omega), upd_n (by omega)])) hd (by omega)
    · rw [upd_n (by omega), upd_n (by omega), upd_n (by omega), cpF_n (by omega)]
  · split
    · refine OKr.nx _ ⟨⟨w, hw, ?_⟩, ?_, ⟨d, hd, ?_⟩, ?_, fun _ => ⟨b, hb, ?_⟩, ?_, ?_, ?_, h9.cong (fun j hj => ?_)⟩
      · rw [upd_n (by omega), upd_n (by omega), cpF_n (by omega)]; exact ew
      · rw [upd_n (by omega), upd_n (by omega), cpF_n (by omega)]; exact h2
      · rw [upd_n (by omega), upd_n (by omega), cpF_n (by omega)]; exact ed
      · rw [upd_n (by omega), upd_n (by omega), cpF_n (by omega)]; exact h4
      · rw [upd_n (by omega), upd_n (by omega), cpF_n (by omega)]; exact eb
      · rw [upd_n (by omega), upd_n (by omega), cpF_n (by omega)]; exact h6
      · rw [upd_n (by omega), upd_n (by omega), cpF_n (by omega)]; exact h7
      · exact OKp.set (h8.cp.cong (fun k hk => by rw [upd_n (by omega)])) hd (by have := xor_lt14 hw (hs x hx); omega)
      · rw [upd_n (by omega), upd_n (by omega), cpF_n (by omega)]
    · have key : ∀ v : Int32, (∃ w, w < 16384 ∧ upd (upd (upd (cpF d ρ) 12 (ρ 12 + 1)) 6 v) (18 + d) (-9) 1 = nI w) ∧ (upd (upd (upd (cpF d ρ) 12 (ρ 12 + 1)) 6 v) (18 + d) (-9) 3 = 0 ∨ upd (upd (upd (cpF d ρ) 12 (ρ 12 + 1)) 6 v) (18 + d) (-9) 3 = 1) ∧ (∃ p, p < 4 ∧ upd (upd (upd (cpF d ρ) 12 (ρ 12 + 1)) 6 v) (18 + d) (-9) 4 = nI p) ∧ (∃ p, p < 14 ∧ upd (upd (upd (cpF d ρ) 12 (ρ 12 + 1)) 6 v) (18 + d) (-9) 5 = nI p) ∧ (upd (upd (upd (cpF d ρ) 12 (ρ 12 + 1)) 6 v) (18 + d) (-9) 7 = 0 ∨ upd (upd (upd (cpF d ρ) 12 (ρ 12 + 1)) 6 v) (18 + d) (-9) 7 = 1) ∧ (∃ k, k < 4 ∧ upd (upd (upd (cpF d ρ) 12 (ρ 12 + 1)) 6 v) (18 + d) (-9) 9 = nI k) ∧ OKp (upd (upd (upd (cpF d ρ) 12 (ρ 12 + 1)) 6 v) (18 + d) (-9)) ∧ OKL (upd (upd (upd (cpF d ρ) 12 (ρ 12 + 1)) 6 v) (18 + d) (-9)) := by
        intro v
        refine ⟨⟨w, hw, ?_⟩, ?_, ⟨d, hd, ?_⟩, ?_, ?_, ?_, ?_, h9.cong (fun j hj => ?_)⟩
        · rw [upd_n (by omega), upd_n (by omega), upd_n (by omega), cpF_n (by omega)]; exact ew
        · rw [upd_n (by omega), upd_n (by omega), upd_n (by omega), cpF_n (by omega)]; exact h2
        · rw [upd_n (by omega), upd_n (by omega), upd_n (by omega), cpF_n (by omega)]; exact ed
        · rw [upd_n (by omega), upd_n (by omega), upd_n (by omega), cpF_n (by omega)]; exact h4
        · rw [upd_n (by omega), upd_n (by omega), upd_n (by omega), cpF_n (by omega)]; exact h6
        · rw [upd_n (by omega), upd_n (by omega), upd_n (by omega), cpF_n (by omega)]; exact h7
        · exact OKp.gone (h8.cp.cong (fun k hk => by rw [upd_n (by omega), upd_n (by omega)]))
        · rw [upd_n (by omega), upd_n (by omega), upd_n (by omega), cpF_n (by omega)]
      obtain ⟨k1, k2, k3, k4, k6, k7, k8, k9⟩ := key (ρ 6 + 1)
      split
      · refine OKr.lo (hold := 1) (Or.inr ⟨k1, k2, k3, k4, fun _ => ⟨0, by omega, rfl⟩, k6, k7, k8.cong (fun k hk => by rw [upd_n (by omega)]), k9.cong (fun j hj => by rw [upd_n (by omega)])⟩)
      · rename_i hne
        refine OKr.nx _ ⟨k1, k2, k3, k4, fun _ => ⟨b + 1, ?_, ?_⟩, k6, k7, k8, k9⟩
        · have : b + 1 ≠ c.2.2.1 := fun z => hne (by rw [eb, nI_1, z])
          omega
        · rw [upd_n (by omega), upd_s, eb, nI_1]
theorem OKr.ht {c : CT} {ρ : RT} (hh : 1 ≤ c.2.2.1) (h9c : c.2.2.1 ≤ 9) (hg : c.1 < 64) (ho : ∀ k, k < 4 → c.2.1 k < 64) (hs : ∀ r, r < 64 → c.2.2.2 r < 16384) (h : OKr c.2.2.1 ρ) (b : Nat) : OKr c.2.2.1 (htF c ρ b) := by
  have hb := h.b1 b
  unfold htF
  generalize b1F ρ b = σ at hb ⊢
  split
  · exact hb.sk hh
  · rename_i hn
    obtain ⟨h1, h2, h3, ⟨p, hp, ep⟩, h5, h6, h7, h8, h9⟩ := id hb
    have h31 : σ 3 = 1 := by rcases h2 with z | z; exact absurd z hn; exact z
    split
    · refine OKr.bl hh h9c hg ho hs ⟨h1, h2, h3, ⟨0, by decide, rfl⟩, h5, h6, h7, h8.cong (fun k hk => ?_), h9.cong (fun j hj => ?_)⟩ h31
      · rw [upd_n (by omega), upd_n (by omega)]
      · rw [upd_n (by omega), upd_n (by omega)]
    · rename_i hne
      refine ⟨h1, h2, h3, ⟨p + 1, ?_, by rw [upd_s, ep, nI_1]⟩, h5, h6, h7, h8.cong (fun k hk => upd_n (by omega)), h9.cong (fun j hj => upd_n (by omega))⟩
      have : p + 1 ≠ 14 := fun z => hne (by rw [ep, nI_1, z]; rfl)
      omega
theorem OKr.hs {c : CT} (hh : 1 ≤ c.2.2.1) (h9c : c.2.2.1 ≤ 9) (hg : c.1 < 64) (ho : ∀ k, k < 4 → c.2.1 k < 64) (hs : ∀ r, r < 64 → c.2.2.2 r < 16384) (v : Nat) : ∀ (n : Nat) (ρ : RT), OKr c.2.2.1 ρ → OKr c.2.2.1 (hsF c n ρ v)
  | 0, _, h => h
  | n + 1, _, h => OKr.hs hh h9c hg ho hs v n _ (h.ht hh h9c hg ho hs _)
end
section
theorem OKp.l1 {ρ : RT} (h : OKp ρ) : OKp (l1F ρ) := h.cong (fun k hk => l1F_n (by omega) (by omega))
theorem divI {b d : Nat} (hb : b < 2 ^ 31) (h0 : 0 < d) (hd : d < 2 ^ 31) : nI b / nI d = nI (b / d) := pk_div hb h0 hd
set_option maxHeartbeats 1000000 in
theorem c_lookAt {g : GT} {Z : ZT} {I : IT} {L : LT} {Post : PT} {a : Nat} (hK : zK Z a = 7) (hL : zL Z a = 47) (hok : OKp (I a)) (hli : OKL (I a)) (hp : Post none Z (upR I a (laF (I a))) L) : CM g 2 0 0 mX6_lookAt [.ref a] Z I L Post := by
  refine CM_intro ?_
  have hok1 := hok.l1
  have hli1 : OKL (l1F (I a)) := hli.cong (fun j hj => l1F_n (by omega) (by omega))
  have key : JW g mX6_lookAt (rmO 2 0 0) (QM Post 0 0) 36 [(1, .int (I a 18)), (0, .ref a)] [] 0 0 Z (upR I a (l1F (I a))) L := by
    unfold laF at hp
    generalize l1F (I a) = σ at hok1 hli1 hp ⊢
    generalize hI1 : upR I a σ = I1
    have e1 : I1 a = σ := by rw [← hI1]; exact upR_s _ _ _
    have hp : Post none Z (upR I1 a (l2F σ)) L := by rw [← hI1, upR_R]; exact hp
    unfold l2F at hp
    obtain ⟨m, m8, em, -, -⟩ := id hli1
    refine j_aload_n 1 dX6_lookAt_36 rfl (j_bipush (v := 19) dX6_lookAt_37 rfl (j_iaload 19 dX6_lookAt_39 (by first | assumption | rfl) (by first | assumption | rfl) (by omega) (j_istore_n (lv' := [(2, _), (1, _), (0, _)]) dX6_lookAt_40 rfl (j_iload_n 0 dX6_lookAt_41 rfl (j_bipush (v := -9) dX6_lookAt_42 rfl (j_icmp_ne (tgt := 48) dX6_lookAt_44 rfl (fun h1 => ?_) (fun h1 => ?_)))))))
    · rw [e1] at h1
      refine j_aload_n 2 dX6_lookAt_48 rfl (j_bipush (v := 20) dX6_lookAt_49 rfl (j_iaload 20 dX6_lookAt_51 (by first | assumption | rfl) (by first | assumption | rfl) (by omega) (j_istore_n (lv' := [(3, _), (2, _), (1, _), (0, _)]) dX6_lookAt_52 rfl (j_aload_n 3 dX6_lookAt_53 rfl (j_bipush (v := 21) dX6_lookAt_54 rfl (j_iaload 21 dX6_lookAt_56 (by first | assumption | rfl) (by first | assumption | rfl) (by omega) (j_istore (lv' := [(4, _), (3, _), (2, _), (1, _), (0, _)]) dX6_lookAt_57 rfl ?_)))))))
      rw [if_neg h1] at hp
      obtain ⟨b, hb, eb⟩ : ∃ p, p < 256 ∧ σ 19 = nI p := by
        rcases hok1 1 (by decide) with z | z
        · exact absurd z h1
        · exact z
      rw [eb, nN_nI (show b < 2 ^ 31 by omega)] at hp
      rw [e1, eb]
      have sw : ∀ fl : Int32, (fl = 1 ∧ σ 20 ≠ -9 ∧ σ 21 ≠ -9) ∨ (fl = 0 ∧ ¬ (σ 20 ≠ -9 ∧ σ 21 ≠ -9)) → JW g mX6_lookAt (rmO 2 0 0) (QM Post 0 0) 79 [(5, .int fl), (4, .int (σ 21)), (3, .int (σ 20)), (2, .int (nI b)), (1, .int (I a 18)), (0, .ref a)] [] 0 0 Z I1 L := by
        intro fl hfl
        refine j_iload_n 3 dX6_lookAt_79 rfl (j_bipush (v := 64) dX6_lookAt_80 rfl (j_idiv dX6_lookAt_82 (by decide) ?_))
        rw [show (nI b / 64 : Int32) = nI (b / 64) from divI (d := 64) (by omega) (by decide) (by decide)]
        have hq : b / 64 = 0 ∨ b / 64 = 1 ∨ b / 64 = 2 ∨ b / 64 = 3 := by omega
        rcases hq with hq | hq | hq | hq
        · rw [if_pos hq] at hp
          rw [hq]
          refine j_tsIn (tgt := 108) dX6_lookAt_83 (by decide) (by decide) rfl rfl ?_
          rcases hfl with ⟨rfl, hbo⟩ | ⟨rfl, hbo⟩
          · rw [if_pos hbo] at hp
            refine j_iload 0 dX6_lookAt_108 rfl (j_if_eq (tgt := 184) dX6_lookAt_110 rfl (fun h9 => absurd h9 (by decide)) (fun _ => (j_aload_n 5 dX6_lookAt_113 rfl (j_iload_n 3 dX6_lookAt_114 rfl (j_iconst (v := 4) dX6_lookAt_115 rfl (j_irem dX6_lookAt_116 (by decide) (j_sipush (v := 256) dX6_lookAt_117 rfl (j_iload_n 2 dX6_lookAt_120 rfl (j_imul dX6_lookAt_121 (j_iload 1 dX6_lookAt_122 rfl (j_iadd dX6_lookAt_124 ?_)))))))))))
            rw [show (nI b - nI b / 4 * 4 : Int32) = nI (b % 4) from remI (d := 4) (by omega) (by decide) (by decide)]
            refine j_S3 dX6_lookAt_125 kX6_130 (c_takePair hK hL (Nat.mod_lt _ (by decide)) (j_goto (tgt := 184) dX6_lookAt_128 rfl (j_vret dX6_lookAt_184 ?_)))
            rw [e1]
            exact hp
          · rw [if_neg hbo, ← e1, fa_self] at hp
            refine j_iload 0 dX6_lookAt_108 rfl (j_if_eq (tgt := 184) dX6_lookAt_110 rfl (fun _ => (j_vret dX6_lookAt_184 ?_)) (fun h9 => absurd (by decide) h9))
            exact hp
        · rw [if_neg (by omega), if_pos hq] at hp
          rw [hq]
          refine j_tsIn (tgt := 131) dX6_lookAt_83 (by decide) (by decide) rfl rfl ?_
          rcases hfl with ⟨rfl, hbo⟩ | ⟨rfl, hbo⟩
          · refine j_iload 0 dX6_lookAt_131 rfl (j_if_eq (tgt := 184) dX6_lookAt_133 rfl (fun h9 => absurd h9 (by decide)) (fun _ => (j_iload_n 2 dX6_lookAt_136 rfl (j_bipush (v := 24) dX6_lookAt_137 rfl (j_icmp_ge (tgt := 184) dX6_lookAt_139 rfl (fun h4 => ?_) (fun h4 => ?_))))))
            · rw [if_neg (fun z => absurd h4 (Int32.not_le.mpr z.2.2.1)), ← e1, fa_self] at hp
              refine j_vret dX6_lookAt_184 ?_
              exact hp
            · refine j_iload 1 dX6_lookAt_142 rfl (j_bipush (v := 60) dX6_lookAt_144 rfl (j_icmp_ge (tgt := 184) dX6_lookAt_146 rfl (fun h5 => ?_) (fun h5 => ?_)))
              · rw [if_neg (fun z => absurd h5 (Int32.not_le.mpr z.2.2.2)), ← e1, fa_self] at hp
                refine j_vret dX6_lookAt_184 ?_
                exact hp
              · rw [if_pos ⟨hbo.1, hbo.2, Int32.not_le.mp h4, Int32.not_le.mp h5⟩] at hp
                refine j_aload_n 5 dX6_lookAt_149 rfl (j_bipush (v := 16) dX6_lookAt_150 rfl (j_bipush (v := 60) dX6_lookAt_152 rfl (j_iload_n 2 dX6_lookAt_154 rfl (j_imul dX6_lookAt_155 (j_iload 1 dX6_lookAt_156 rfl (j_iadd dX6_lookAt_158 (j_iastore 16 dX6_lookAt_159 (by first | assumption | rfl) (by first | assumption | rfl) (by omega) (j_goto (tgt := 184) dX6_lookAt_160 rfl (j_vret dX6_lookAt_184 ?_)))))))))
                simp only [upI, e1]
                exact hp
          · rw [if_neg (fun z => hbo ⟨z.1, z.2.1⟩), ← e1, fa_self] at hp
            refine j_iload 0 dX6_lookAt_131 rfl (j_if_eq (tgt := 184) dX6_lookAt_133 rfl (fun _ => (j_vret dX6_lookAt_184 ?_)) (fun h9 => absurd (by decide) h9))
            exact hp
        · rw [if_neg (by omega), if_neg (by omega), if_pos hq] at hp
          rw [hq]
          refine j_tsIn (tgt := 163) dX6_lookAt_83 (by decide) (by decide) rfl rfl ?_
          obtain ⟨m', m8', em', -, -⟩ := hli1.ho (σ 20)
          refine j_aload_n 5 dX6_lookAt_163 rfl (j_iload_n 2 dX6_lookAt_164 rfl (j_S2 dX6_lookAt_165 kX6_134 (c_hearOf hK hL (by rw [e1]; exact em) m8 ?_)))
          rw [e1]
          refine j_aload_n 5 dX6_lookAt_168 rfl (j_iload 1 dX6_lookAt_169 rfl (j_S2 dX6_lookAt_171 kX6_134 (c_hearOf hK hL (by rw [upR_s]; exact em') m8' (j_goto (tgt := 184) dX6_lookAt_174 rfl (j_vret dX6_lookAt_184 ?_)))))
          rw [upR_s, upR_R]
          exact hp
        · rw [if_neg (by omega), if_neg (by omega), if_neg (by omega)] at hp
          rw [hq]
          refine j_tsOut (tgt := 177) dX6_lookAt_83 (Or.inr (by decide)) rfl ?_
          refine j_aload_n 5 dX6_lookAt_177 rfl (j_iload_n 3 dX6_lookAt_178 rfl (j_iconst (v := 2) dX6_lookAt_179 rfl (j_irem dX6_lookAt_180 (by decide) ?_)))
          rw [show (nI b - nI b / 2 * 2 : Int32) = nI (b % 2) from remI (d := 2) (by omega) (by decide) (by decide)]
          refine j_S2 dX6_lookAt_181 kX6_138 (c_takeFlag hK hL (j_vret dX6_lookAt_184 ?_))
          rw [e1]
          exact hp
      refine j_iload_n 1 dX6_lookAt_59 rfl (j_bipush (v := -9) dX6_lookAt_60 rfl (j_icmp_eq (tgt := 76) dX6_lookAt_62 rfl (fun h2 => ?_) (fun h2 => ?_)))
      · refine j_iconst (v := 0) dX6_lookAt_76 rfl (j_istore (lv' := [(5, _), (4, _), (3, _), (2, _), (1, _), (0, _)]) dX6_lookAt_77 rfl ?_)
        exact sw 0 (Or.inr ⟨rfl, fun z => z.1 h2⟩)
      · refine j_iload 0 dX6_lookAt_65 rfl (j_bipush (v := -9) dX6_lookAt_67 rfl (j_icmp_eq (tgt := 76) dX6_lookAt_69 rfl (fun h3 => ?_) (fun h3 => ?_)))
        · refine j_iconst (v := 0) dX6_lookAt_76 rfl (j_istore (lv' := [(5, _), (4, _), (3, _), (2, _), (1, _), (0, _)]) dX6_lookAt_77 rfl ?_)
          exact sw 0 (Or.inr ⟨rfl, fun z => z.2 h3⟩)
        · refine j_iconst (v := 1) dX6_lookAt_72 rfl (j_goto (tgt := 77) dX6_lookAt_73 rfl (j_istore (lv' := [(5, _), (4, _), (3, _), (2, _), (1, _), (0, _)]) dX6_lookAt_77 rfl ?_))
          exact sw 1 (Or.inl ⟨rfl, h2, h3⟩)
    · rw [e1] at h1
      refine j_vret dX6_lookAt_47 ?_
      rw [if_pos h1, ← e1, fa_self] at hp
      exact hp
  unfold l1F at key
  refine j_aload_n 0 dX6_lookAt_0 rfl (j_bipush (v := 18) dX6_lookAt_1 rfl (j_iaload 18 dX6_lookAt_3 (by first | assumption | rfl) (by first | assumption | rfl) (by omega) (j_istore_n (lv' := [(1, _), (0, _)]) dX6_lookAt_4 rfl (j_iload_n 0 dX6_lookAt_5 rfl (j_bipush (v := -9) dX6_lookAt_6 rfl (j_icmp_eq (tgt := 36) dX6_lookAt_8 rfl (fun h1 => ?_) (fun h1 => ?_)))))))
  · rw [if_pos h1, fa_self] at key
    exact key
  · rw [if_neg h1] at key
    refine j_aload_n 1 dX6_lookAt_11 rfl (j_bipush (v := 14) dX6_lookAt_12 rfl (j_aload_n 1 dX6_lookAt_14 rfl (j_bipush (v := 15) dX6_lookAt_15 rfl (j_iaload 15 dX6_lookAt_17 (by first | assumption | rfl) (by first | assumption | rfl) (by omega) (j_iload_n 0 dX6_lookAt_18 rfl (j_icmp_ne (tgt := 26) dX6_lookAt_19 rfl (fun h2 => ?_) (fun h2 => ?_)))))))
    · rw [if_neg h2] at key
      refine j_aload_n 1 dX6_lookAt_26 rfl (j_bipush (v := 14) dX6_lookAt_27 rfl (j_iaload 14 dX6_lookAt_29 (by first | assumption | rfl) (by first | assumption | rfl) (by omega) (j_iastore 14 dX6_lookAt_30 (by first | assumption | rfl) (by first | assumption | rfl) (by omega) (j_aload_n 1 dX6_lookAt_31 rfl (j_bipush (v := 15) dX6_lookAt_32 rfl (j_iload_n 0 dX6_lookAt_34 rfl (j_iastore 15 dX6_lookAt_35 (by first | assumption | rfl) (by first | assumption | rfl) (by omega) ?_)))))))
      simp only [upI, upR_R, upR_s]
      exact key
    · rw [if_pos h2] at key
      refine j_iload_n 0 dX6_lookAt_22 rfl (j_goto (tgt := 30) dX6_lookAt_23 rfl (j_iastore 14 dX6_lookAt_30 (by first | assumption | rfl) (by first | assumption | rfl) (by omega) (j_aload_n 1 dX6_lookAt_31 rfl (j_bipush (v := 15) dX6_lookAt_32 rfl (j_iload_n 0 dX6_lookAt_34 rfl (j_iastore 15 dX6_lookAt_35 (by first | assumption | rfl) (by first | assumption | rfl) (by omega) ?_))))))
      simp only [upI, upR_R, upR_s]
      exact key
theorem MC.up {I : IT} {c : CT} (h : MC I c) {a : Nat} (ha : 203 ≤ a) (f : Nat → Int32) : MC (upR I a f) c := by
  unfold MC at h ⊢
  rw [upR_n (show 198 ≠ a by omega), upR_n (show 200 ≠ a by omega), upR_n (show 201 ≠ a by omega), upR_n (show 202 ≠ a by omega)]
  exact h
theorem MC.s0 {I : IT} {c : CT} (h : MC I c) : c.2.2.2 0 = 0 := by
  obtain ⟨c1, c2, c3, c4, c5, c6, c7, c8, c9, c10⟩ := h
  have := c8 0 (by decide)
  rw [if_neg (by omega)] at this
  exact (nI_inj (a := 0) (by decide) (by have := c9 0 (by decide); omega) this).symm
set_option maxHeartbeats 1000000 in
theorem c_seek {g : GT} {Z : ZT} {I : IT} {L : LT} {Post : PT} {a : Nat} {c : CT} (hZ : isMo Z) (hc : MC I c) (hK : zK Z a = 7) (hL : zL Z a = 47) (hok : OKr c.2.2.1 (I a)) (hp : Post none Z (upR I a (skF c (I a))) L) : CM g 3 0 0 mX6_seek [.ref 198, .ref a] Z I L Post := by
  obtain ⟨z1, z2, z3, z4, z5, z6, z7, z8, z9, z10⟩ := id hZ
  obtain ⟨c1, c2, c3, c4, c5, c6, c7, c8, c9, c10⟩ := id hc
  obtain ⟨⟨w, hw, ew⟩, o2, o3, o4, o5, o6, ⟨ho, hho, eho⟩, o8, o9⟩ := id hok
  have hrest := lfN_lt c2 hw
  refine CM_intro ?_
  have hsk : skF c (I a) = skF c (I a) := rfl
  unfold skF at hp
  rw [ew, nN_nI (show w < 2 ^ 31 by omega)] at hp
  have hle := hitN_le c w
  generalize hk : hitN c w = k at hp hle
  have fin : JW g mX6_seek (rmO 3 0 0) (QM Post 0 0) 31 [(3, .int (nI k)), (2, .int (nI (lfN c.1 w))), (0, .ref 198), (1, .ref a)] [] 0 0 Z I L := by
    refine j_aload_n 3 dX6_seek_31 rfl (j_iconst (v := 2) dX6_seek_32 rfl (j_iaload 2 dX6_seek_33 (by first | assumption | rfl) (by first | assumption | rfl) (by omega) (j_bipush (v := 14) dX6_seek_34 rfl (j_icmp_lt (tgt := 44) dX6_seek_36 rfl (fun h1 => ?_) (fun h1 => ?_)))))
    · rw [if_pos (Or.inl h1), fa_self] at hp
      refine j_vret dX6_seek_44 ?_
      exact hp
    · refine j_iload_n 0 dX6_seek_39 rfl (j_iconst (v := 4) dX6_seek_40 rfl (j_icmp_ne (tgt := 45) dX6_seek_41 rfl (fun h2 => ?_) (fun h2 => ?_)))
      · have hk4 : k < 4 := by
          have : k ≠ 4 := fun z => h2 (by rw [z]; rfl)
          omega
        rw [if_neg (by intro z; rcases z with z | z; exact h1 z; omega)] at hp
        refine j_aload_n 3 dX6_seek_45 rfl (j_iconst (v := 0) dX6_seek_46 rfl (j_iaload 0 dX6_seek_47 (by first | assumption | rfl) (by first | assumption | rfl) (by omega) (j_aload_n 3 dX6_seek_48 rfl (j_bipush (v := 8) dX6_seek_49 rfl (j_iaload 8 dX6_seek_51 (by first | assumption | rfl) (by first | assumption | rfl) (by omega) (j_isub dX6_seek_52 (j_istore (lv' := [(4, _), (3, _), (2, _), (0, _), (1, _)]) dX6_seek_53 rfl ?_)))))))
        generalize hoff : I a 0 - I a 8 = off
        have no : ¬ fitsB (I a) k → JW g mX6_seek (rmO 3 0 0) (QM Post 0 0) 107 [(4, .int off), (3, .int (nI k)), (2, .int (nI (lfN c.1 w))), (0, .ref 198), (1, .ref a)] [] 0 0 Z I L := by
          intro hn
          rw [if_neg hn] at hp
          refine j_iconst (v := 0) dX6_seek_107 rfl (j_istore (lv' := [(5, _), (4, _), (3, _), (2, _), (0, _), (1, _)]) dX6_seek_108 rfl (j_iload 0 dX6_seek_110 rfl (j_if_ne (tgt := 133) dX6_seek_112 rfl (fun h9 => absurd (by decide) h9) (fun _ => (j_aload_n 5 dX6_seek_115 rfl (j_bipush (v := 7) dX6_seek_116 rfl (j_iconst (v := 1) dX6_seek_118 rfl (j_iastore 7 dX6_seek_119 (by first | assumption | rfl) (by first | assumption | rfl) (by omega) (j_aload_n 5 dX6_seek_120 rfl (j_bipush (v := 8) dX6_seek_121 rfl (j_aload_n 5 dX6_seek_123 rfl (j_iconst (v := 0) dX6_seek_124 rfl (j_iaload 0 dX6_seek_125 (by first | assumption | rfl) (by first | assumption | rfl) (by omega) (j_iastore 8 dX6_seek_126 (by first | assumption | rfl) (by first | assumption | rfl) (by omega) (j_aload_n 5 dX6_seek_127 rfl (j_bipush (v := 9) dX6_seek_128 rfl (j_iload_n 2 dX6_seek_130 rfl (j_iastore 9 dX6_seek_131 (by first | assumption | rfl) (by first | assumption | rfl) (by omega) (j_vret dX6_seek_132 ?_)))))))))))))))))))
          simp only [upI, upR_R, upR_s, upd_app]
          exact hp
        have hfits : fitsB (I a) k ↔ (I a 7 = 1 ∧ off - off / 14 * 14 = 0 ∧ 1 ≤ off / 14 ∧ off / 14 ≤ 4 ∧ (nN (I a 9) + nN (off / 14)) % 4 = k) := by unfold fitsB; rw [hoff]
        refine j_aload_n 4 dX6_seek_55 rfl (j_bipush (v := 7) dX6_seek_56 rfl (j_iaload 7 dX6_seek_58 (by first | assumption | rfl) (by first | assumption | rfl) (by omega) (j_iconst (v := 1) dX6_seek_59 rfl (j_icmp_ne (tgt := 107) dX6_seek_60 rfl (fun h3 => ?_) (fun h3 => ?_)))))
        · exact no (fun z => h3 z.1)
        · refine j_iload 0 dX6_seek_63 rfl (j_bipush (v := 14) dX6_seek_65 rfl (j_irem dX6_seek_67 (by decide) (j_if_ne (tgt := 107) dX6_seek_68 rfl (fun h4 => ?_) (fun h4 => ?_))))
          · exact no (fun z => h4 (hfits.mp z).2.1)
          · refine j_iload 0 dX6_seek_71 rfl (j_bipush (v := 14) dX6_seek_73 rfl (j_idiv dX6_seek_75 (by decide) (j_i2l dX6_seek_76 (j_lconst (v := 1) dX6_seek_77 rfl (j_ldc2 (v := 4) dX6_seek_78 (List.mem_of_getElem? (i := 926) (by decide +kernel)) (j_S3 dX6_seek_81 kX6_68 (c_inB 1 4 (by decide) rfl rfl ?_)))))))
            refine ⟨fun t t1 t2 et => ?_, fun hn => ?_⟩
            · refine j_if_eq (tgt := 107) dX6_seek_84 rfl (fun h9 => absurd h9 (by decide)) (fun _ => (j_iload_n 1 dX6_seek_87 rfl (j_aload_n 4 dX6_seek_88 rfl (j_bipush (v := 9) dX6_seek_89 rfl (j_iaload 9 dX6_seek_91 (by first | assumption | rfl) (by first | assumption | rfl) (by omega) (j_iload 0 dX6_seek_92 rfl (j_bipush (v := 14) dX6_seek_94 rfl (j_idiv dX6_seek_96 (by decide) (j_iadd dX6_seek_97 (j_iconst (v := 4) dX6_seek_98 rfl (j_irem dX6_seek_99 (by decide) ?_)))))))))))
              have e5 : (I a 9 + off / 14) - (I a 9 + off / 14) / 4 * 4 = nI ((ho + t) % 4) := by
                rw [eho, et, nI_add]
                exact remI (d := 4) (by omega) (by decide) (by decide)
              rw [e5]
              have e6 : fitsB (I a) k ↔ (ho + t) % 4 = k := by
                rw [hfits, et, eho, nN_nI (show ho < 2 ^ 31 by omega), nN_nI (show t < 2 ^ 31 by omega), ← et]
                exact ⟨fun z => z.2.2.2.2, fun z => ⟨h3, h4, by rw [et]; exact nI_le (a := 1) t1 (by omega), by rw [et]; exact nI_le (b := 4) t2 (by decide), z⟩⟩
              refine j_icmp_ne (tgt := 107) dX6_seek_100 rfl (fun h5 => ?_) (fun h5 => ?_)
              · exact no (fun z => h5 (by rw [e6.mp z]))
              · have hft : fitsB (I a) k := e6.mpr (nI_inj (by omega) (by omega) h5).symm
                rw [if_pos hft] at hp
                refine j_iconst (v := 1) dX6_seek_103 rfl (j_goto (tgt := 108) dX6_seek_104 rfl (j_istore (lv' := [(5, _), (4, _), (3, _), (2, _), (0, _), (1, _)]) dX6_seek_108 rfl (j_iload 0 dX6_seek_110 rfl (j_if_ne (tgt := 133) dX6_seek_112 rfl (fun _ => (j_aload_n 5 dX6_seek_133 rfl (j_iconst (v := 3) dX6_seek_134 rfl (j_iconst (v := 1) dX6_seek_135 rfl (j_iastore 3 dX6_seek_136 (by first | assumption | rfl) (by first | assumption | rfl) (by omega) (j_aload_n 5 dX6_seek_137 rfl (j_iconst (v := 4) dX6_seek_138 rfl (j_iload_n 2 dX6_seek_139 rfl (j_iconst (v := 1) dX6_seek_140 rfl (j_iadd dX6_seek_141 (j_iconst (v := 4) dX6_seek_142 rfl (j_irem dX6_seek_143 (by decide) (j_iastore 4 dX6_seek_144 (by first | assumption | rfl) (by first | assumption | rfl) (by omega) (j_aload_n 5 dX6_seek_145 rfl (j_iconst (v := 5) dX6_seek_146 rfl (j_iconst (v := 0) dX6_seek_147 rfl (j_iastore 5 dX6_seek_148 (by first | assumption | rfl) (by first | assumption | rfl) (by omega) (j_aload_n 5 dX6_seek_149 rfl (j_bipush (v := 6) dX6_seek_150 rfl (j_iconst (v := 0) dX6_seek_152 rfl (j_iastore 6 dX6_seek_153 (by first | assumption | rfl) (by first | assumption | rfl) (by omega) (j_aload_n 5 dX6_seek_154 rfl (j_S1 dX6_seek_155 kX6_125 (c_noParts hK hL (j_aload_n 5 dX6_seek_158 rfl (j_bipush (v := 10) dX6_seek_159 rfl (j_dup2 dX6_seek_161 rfl rfl (j_iaload 10 dX6_seek_162 (by first | assumption | rfl) (by first | assumption | rfl) (by omega) (j_iconst (v := 1) dX6_seek_163 rfl (j_iadd dX6_seek_164 (j_iastore 10 dX6_seek_165 (by first | assumption | rfl) (by first | assumption | rfl) (by omega) ?_))))))))))))))))))))))))))))))) (fun h9 => absurd h9 (by decide))))))
                have e7 : (nI k + 1 - (nI k + 1) / 4 * 4 : Int32) = nI ((k + 1) % 4) := by rw [nI_1]; exact remI (d := 4) (by omega) (by decide) (by decide)
                simp only [upI, upR_R, upR_s, e7]
                generalize hσ : upd (npF (upd (upd (upd (upd (I a) 3 1) 4 (nI ((k + 1) % 4))) 5 0) 6 0)) 10 (npF (upd (upd (upd (upd (I a) 3 1) 4 (nI ((k + 1) % 4))) 5 0) 6 0) 10 + 1) = σ
                have hσ1 : σ 1 = nI w := by rw [← hσ, upd_n (by decide), npF_n (by omega)]; exact ew
                have hσe : upd (npF (upd (upd (upd (upd (I a) 3 1) 4 (nI ((k + 1) % 4))) 5 0) 6 0)) 10 (I a 10 + 1) = σ := by rw [← hσ, npF_n (show 10 < 18 ∨ 22 ≤ 10 by omega)]; rfl
                rw [hσe] at hp
                refine j_aload_n 5 dX6_seek_166 rfl (j_bipush (v := 18) dX6_seek_167 rfl (j_iload_n 2 dX6_seek_169 rfl (j_iadd dX6_seek_170 (j_aload_n 5 dX6_seek_171 rfl (j_iconst (v := 1) dX6_seek_172 rfl (j_iaload 1 dX6_seek_173 (by first | assumption | rfl) (by first | assumption | rfl) (by omega) (j_bipush (v := 64) dX6_seek_174 rfl (j_idiv dX6_seek_176 (by decide) (j_iastore (18 + k) dX6_seek_177 (nI_add 18 k) (by first | assumption | rfl) (by omega) ?_)))))))))
                simp only [upI, upR_R, upR_s, hσ1]
                rw [show (nI w / 64 : Int32) = nI (w / 64) from divI (d := 64) (by omega) (by decide) (by decide)]
                have hoks : OKr c.2.2.1 (skF c (I a)) := hok.sk c6
                refine j_iload_n 2 dX6_seek_178 rfl (j_iconst (v := 3) dX6_seek_179 rfl (j_icmp_ne (tgt := 187) dX6_seek_180 rfl (fun h6 => ?_) (fun h6 => ?_)))
                · have : k ≠ 3 := fun z => h6 (by rw [z]; rfl)
                  refine j_vret dX6_seek_187 ?_
                  simp only [if_neg this] at hp
                  exact hp
                · have h3k : k = 3 := nI_inj (b := 3) (by omega) (by decide) h6
                  simp only [if_pos h3k] at hp
                  have hop : OKp (upd σ (18 + k) (nI (w / 64))) := by
                    refine OKp.set ?_ hk4 (by omega)
                    rw [← hσ]
                    exact OKp.cong OKp.np (fun j hj => upd_n (by omega))
                  have hol : OKL (upd σ (18 + k) (nI (w / 64))) := o9.cong (fun j hj => by rw [upd_n (by omega), ← hσ, upd_n (by omega), npF_n (by omega), upd_n (by omega), upd_n (by omega), upd_n (by omega), upd_n (by omega)])
                  refine j_aload_n 5 dX6_seek_183 rfl (j_S1 dX6_seek_184 kX6_143 (c_lookAt hK hL (by rw [upR_s]; exact hop) (by rw [upR_s]; exact hol) (j_vret dX6_seek_187 ?_)))
                  simp only [upR_R, upR_s]
                  exact hp
            · refine j_if_eq (tgt := 107) dX6_seek_84 rfl (fun _ => ?_) (fun h9 => absurd (by decide) h9)
              refine no (fun z => ?_)
              have z := hfits.mp z
              obtain ⟨t, g1, g2, g3⟩ := bt_t (a := 1) (b := 4) (x := off / 14) (by decide) ((i32_le _ _).mp z.2.2.1) ((i32_le _ _).mp z.2.2.2.1)
              exact hn t g1 g2 g3
      · have hk4 : k = 4 := nI_inj (b := 4) (by omega) (by decide) h2
        rw [if_pos (Or.inr hk4), fa_self] at hp
        refine j_vret dX6_seek_44 ?_
        exact hp
  have loop : ∀ (n j : Nat), j + n = 4 → fIx (fun k => decide (c.2.1 k = lfN c.1 w)) n j = k → JW g mX6_seek (rmO 3 0 0) (QM Post 0 0) 10 [(3, .int (nI j)), (2, .int (nI (lfN c.1 w))), (0, .ref 198), (1, .ref a)] [] 0 0 Z I L := by
    intro n
    induction n with
    | zero =>
      intro j hj hf
      have hf : j = k := hf
      subst hf
      have : j = 4 := by omega
      subst this
      refine j_iload_n 0 dX6_seek_10 rfl (j_iconst (v := 4) dX6_seek_11 rfl (j_icmp_ge (tgt := 31) dX6_seek_12 rfl (fun h1 => ?_) (fun h1 => ?_)))
      · exact fin
      · exact absurd (by decide) h1
    | succ n ih =>
      intro j hj hf
      unfold fIx at hf
      refine j_iload_n 0 dX6_seek_10 rfl (j_iconst (v := 4) dX6_seek_11 rfl (j_icmp_ge (tgt := 31) dX6_seek_12 rfl (fun h1 => ?_) (fun h1 => ?_)))
      · exact absurd h1 (nI_ge (show j < 4 by omega) (by decide))
      · refine j_aload_n 2 dX6_seek_15 rfl (j_getR (b := 200) dX6_seek_16 fX6_13 rfl (by first | assumption | rfl) (by first | assumption | rfl) (j_iload_n 0 dX6_seek_19 rfl (j_iaload j dX6_seek_20 (by first | assumption | rfl) (by first | assumption | rfl) (by omega) (j_iload_n 1 dX6_seek_21 rfl (j_icmp_eq (tgt := 31) dX6_seek_22 rfl (fun h2 => ?_) (fun h2 => ?_))))))
        · rw [c3 j (by omega)] at h2
          rw [if_pos (by simpa using nI_inj (by have := c4 j (by omega); omega) (by omega) h2)] at hf
          subst hf
          exact fin
        · rw [c3 j (by omega)] at h2
          rw [if_neg (by simpa using fun z => h2 (by rw [z]))] at hf
          refine j_iinc (y := 1) (lv' := [(3, _), (2, _), (0, _), (1, _)]) 0 dX6_seek_25 rfl rfl rfl (j_goto (tgt := 10) dX6_seek_28 rfl ?_)
          rw [nI_1]
          exact JW.locals [0, 1, 2, 3] rfl (ih (j + 1) (by omega) hf)
  refine j_aload_n 0 dX6_seek_0 rfl (j_aload_n 1 dX6_seek_1 rfl (j_iconst (v := 1) dX6_seek_2 rfl (j_iaload 1 dX6_seek_3 (by first | assumption | rfl) (by first | assumption | rfl) (by omega) ?_)))
  rw [ew]
  refine j_V1 dX6_seek_4 kX6_89 (by first | assumption | rfl) (c_left z1 c1 c2 hw (j_istore_n (lv' := [(2, _), (0, _), (1, _)]) dX6_seek_7 rfl (j_iconst (v := 0) dX6_seek_8 rfl (j_istore_n (lv' := [(3, _), (2, _), (0, _), (1, _)]) dX6_seek_9 rfl ?_))))
  exact JW.locals [0, 1, 2, 3] rfl (loop 4 0 rfl hk)
end
section
set_option maxHeartbeats 1000000 in
theorem c_block {g : GT} {Z : ZT} {I : IT} {L : LT} {Post : PT} {a : Nat} {c : CT} (hZ : isMo Z) (hc : MC I c) (ha : 203 ≤ a) (hK : zK Z a = 7) (hL : zL Z a = 47) (hok : OKr c.2.2.1 (I a)) (hp : Post none Z (upR I a (blF c (I a))) L) : CM g 3 0 0 mX6_block [.ref 198, .ref a] Z I L Post := by
  obtain ⟨z1, z2, z3, z4, z5, z6, z7, z8, z9, z10⟩ := id hZ
  obtain ⟨c1, c2, c3, c4, c5, c6, c7, c8, c9, c10⟩ := id hc
  obtain ⟨⟨w, hw, ew⟩, o2, ⟨d, hd, ed⟩, o4, o5, o6, o7, o8, o9⟩ := id hok
  have hx : lfN c.1 (w ^^^ c.2.1 d) < 64 := lfN_lt c2 (xor_lt14 hw (Nat.lt_trans (c4 d hd) (by decide)))
  unfold blF at hp
  rw [ew, ed, nN_nI (show w < 2 ^ 31 by omega), nN_nI (show d < 2 ^ 31 by omega)] at hp
  refine CM_intro ?_
  refine j_aload_n 1 dX6_block_0 rfl (j_iconst (v := 4) dX6_block_1 rfl (j_iaload 4 dX6_block_2 (by first | assumption | rfl) (by first | assumption | rfl) (by omega) (j_istore_n (lv' := [(2, _), (0, _), (1, _)]) dX6_block_3 rfl (j_aload_n 1 dX6_block_4 rfl (j_iload_n 0 dX6_block_5 rfl (j_aload_n 2 dX6_block_6 rfl (j_iconst (v := 1) dX6_block_7 rfl (j_iaload 1 dX6_block_8 (by first | assumption | rfl) (by first | assumption | rfl) (by omega) ?_))))))))
  rw [ew, ed]
  refine j_V2 dX6_block_9 kX6_146 (by first | assumption | rfl) (c_mRest hZ hc hd hw (j_istore_n (lv' := [(3, _), (2, _), (0, _), (1, _)]) dX6_block_12 rfl ?_))
  generalize lfN c.1 (w ^^^ c.2.1 d) = x at hp hx ⊢
  have key : JW g mX6_block (rmO 3 0 0) (QM Post 0 0) 21 [(3, .int (nI x)), (2, .int (nI d)), (0, .ref 198), (1, .ref a)] [] 0 0 Z (upR I a (cpF d (I a))) L := by
    have hok2 : OKp (cpF d (I a)) := o8.cp
    have hol2 : OKL (cpF d (I a)) := o9.cong (fun j hj => cpF_n (by omega))
    have e10 : cpF d (I a) 10 = I a 10 := cpF_n (by omega)
    have e11 : cpF d (I a) 11 = I a 11 := cpF_n (by omega)
    have e12 : cpF d (I a) 12 = I a 12 := cpF_n (by omega)
    have e6 : cpF d (I a) 6 = I a 6 := cpF_n (by omega)
    have ew2 : cpF d (I a) 1 = nI w := (cpF_n (by omega)).trans ew
    have hcm := hc.up ha (cpF d (I a))
    rw [← e10, ← e11, ← e12, ← e6] at hp
    generalize cpF d (I a) = σ at hok2 hol2 ew2 hcm hp ⊢
    -- the end: a GROUP is looked at, DUE is the next
    have fin : ∀ τ : RT, OKp τ → OKL τ → (Post none Z (upR I a (nxF d τ)) L) → JW g mX6_block (rmO 3 0 0) (QM Post 0 0) 131 [(4, .int (nI (c.2.2.2 x))), (3, .int (nI x)), (2, .int (nI d)), (0, .ref 198), (1, .ref a)] [] 0 0 Z (upR I a τ) L := by
      intro τ t1 t2 hq
      have e9 : (nI d + 1 - (nI d + 1) / 4 * 4 : Int32) = nI ((d + 1) % 4) := by rw [nI_1]; exact remI (d := 4) (by omega) (by decide) (by decide)
      unfold nxF at hq
      refine j_iload_n 2 dX6_block_131 rfl (j_iconst (v := 3) dX6_block_132 rfl (j_icmp_ne (tgt := 140) dX6_block_133 rfl (fun h1 => ?_) (fun h1 => ?_)))
      · have : d ≠ 3 := fun z => h1 (by rw [z]; rfl)
        rw [if_neg this] at hq
        refine j_aload_n 4 dX6_block_140 rfl (j_iconst (v := 4) dX6_block_141 rfl (j_iload_n 2 dX6_block_142 rfl (j_iconst (v := 1) dX6_block_143 rfl (j_iadd dX6_block_144 (j_iconst (v := 4) dX6_block_145 rfl (j_irem dX6_block_146 (by decide) (j_iastore 4 dX6_block_147 (by first | assumption | rfl) (by first | assumption | rfl) (by omega) (j_vret dX6_block_148 ?_))))))))
        simp only [upI, upR_R, upR_s, e9]
        exact hq
      · have h3 : d = 3 := nI_inj (b := 3) (by omega) (by decide) h1
        rw [if_pos h3] at hq
        refine j_aload_n 4 dX6_block_136 rfl (j_S1 dX6_block_137 kX6_143 (c_lookAt hK hL (by rw [upR_s]; exact t1) (by rw [upR_s]; exact t2) (j_aload_n 4 dX6_block_140 rfl (j_iconst (v := 4) dX6_block_141 rfl (j_iload_n 2 dX6_block_142 rfl (j_iconst (v := 1) dX6_block_143 rfl (j_iadd dX6_block_144 (j_iconst (v := 4) dX6_block_145 rfl (j_irem dX6_block_146 (by decide) (j_iastore 4 dX6_block_147 (by first | assumption | rfl) (by first | assumption | rfl) (by omega) (j_vret dX6_block_148 ?_)))))))))))
        simp only [upI, upR_R, upR_s, e9]
        exact hq
    refine j_aload_n 2 dX6_block_21 rfl (j_iload_n 0 dX6_block_22 rfl (j_V1 dX6_block_23 kX6_150 (by first | assumption | rfl) (c_mSure hZ hcm hx hc.s0 (j_istore (lv' := [(4, _), (3, _), (2, _), (0, _), (1, _)]) dX6_block_26 rfl (j_iload_n 1 dX6_block_28 rfl (j_if_ne (tgt := 60) dX6_block_29 rfl (fun h1 => ?_) (fun h1 => ?_)))))))
    · have hx0 : x ≠ 0 := fun z => h1 (by rw [z]; rfl)
      rw [if_neg hx0] at hp
      have ht := c9 x hx
      refine j_iload 0 dX6_block_60 rfl (j_if_eq (tgt := 91) dX6_block_62 rfl (fun h2 => ?_) (fun h2 => ?_))
      · have ht0 : c.2.2.2 x = 0 := nI_inj (b := 0) (by omega) (by decide) h2
        rw [if_neg (fun z => z ht0)] at hp
        refine j_aload_n 4 dX6_block_91 rfl (j_bipush (v := 12) dX6_block_92 rfl (j_dup2 dX6_block_94 rfl rfl (j_iaload 12 dX6_block_95 (by first | assumption | rfl) (by first | assumption | rfl) (by omega) (j_iconst (v := 1) dX6_block_96 rfl (j_iadd dX6_block_97 (j_iastore 12 dX6_block_98 (by first | assumption | rfl) (by first | assumption | rfl) (by omega) (j_aload_n 4 dX6_block_99 rfl (j_bipush (v := 6) dX6_block_100 rfl (j_dup2 dX6_block_102 rfl rfl (j_iaload 6 dX6_block_103 (by first | assumption | rfl) (by first | assumption | rfl) (by omega) (j_iconst (v := 1) dX6_block_104 rfl (j_iadd dX6_block_105 (j_iastore 6 dX6_block_106 (by first | assumption | rfl) (by first | assumption | rfl) (by omega) (j_aload_n 4 dX6_block_107 rfl (j_bipush (v := 18) dX6_block_108 rfl (j_iload_n 2 dX6_block_110 rfl (j_iadd dX6_block_111 (j_bipush (v := -9) dX6_block_112 rfl (j_iastore (18 + d) dX6_block_114 (nI_add 18 d) (by first | assumption | rfl) (by omega) ?_)))))))))))))))))))
        simp only [upI, upR_R, upR_s, upd_app, if_neg (show ¬ (6 : Nat) = 12 by decide)]
        refine j_aload_n 4 dX6_block_115 rfl (j_bipush (v := 6) dX6_block_116 rfl (j_iaload 6 dX6_block_118 (by first | assumption | rfl) (by first | assumption | rfl) (by omega) (j_aload_n 3 dX6_block_119 rfl (j_getI dX6_block_120 fX6_57 (by first | assumption | rfl) (j_icmp_ne (tgt := 131) dX6_block_123 rfl (fun h3 => ?_) (fun h3 => ?_))))))
        · rw [upR_s, upd_n (show 6 ≠ 18 + d by omega), upd_s, upR_n (show 198 ≠ a by omega), c5] at h3
          rw [if_neg h3] at hp
          exact fin _ (OKp.gone (hok2.cong (fun k hk => by rw [upd_n (by omega), upd_n (by omega)]))) (hol2.cong (fun j hj => by rw [upd_n (by omega), upd_n (by omega), upd_n (by omega)])) hp
        · rw [upR_s, upd_n (show 6 ≠ 18 + d by omega), upd_s, upR_n (show 198 ≠ a by omega), c5] at h3
          rw [if_pos h3] at hp
          refine j_aload_n 4 dX6_block_126 rfl (j_S1 dX6_block_127 kX6_153 (c_mLose hK hL (j_vret dX6_block_130 ?_)))
          simp only [upR_R, upR_s]
          exact hp
      · have ht0 : c.2.2.2 x ≠ 0 := fun z => h2 (by rw [z]; rfl)
        rw [if_pos ht0] at hp
        refine j_aload_n 4 dX6_block_65 rfl (j_bipush (v := 11) dX6_block_66 rfl (j_dup2 dX6_block_68 rfl rfl (j_iaload 11 dX6_block_69 (by first | assumption | rfl) (by first | assumption | rfl) (by omega) (j_iconst (v := 1) dX6_block_70 rfl (j_iadd dX6_block_71 (j_iastore 11 dX6_block_72 (by first | assumption | rfl) (by first | assumption | rfl) (by omega) (j_aload_n 4 dX6_block_73 rfl (j_bipush (v := 18) dX6_block_74 rfl (j_iload_n 2 dX6_block_76 rfl (j_iadd dX6_block_77 (j_aload_n 4 dX6_block_78 rfl (j_iconst (v := 1) dX6_block_79 rfl (j_iaload 1 dX6_block_80 (by first | assumption | rfl) (by first | assumption | rfl) (by omega) (j_iload 0 dX6_block_81 rfl (j_ixor dX6_block_83 (j_bipush (v := 64) dX6_block_84 rfl (j_idiv dX6_block_86 (by decide) (j_iastore (18 + d) dX6_block_87 (nI_add 18 d) (by first | assumption | rfl) (by omega) (j_goto (tgt := 131) dX6_block_88 rfl ?_)))))))))))))))))))
        simp only [upI, upR_R, upR_s, upd_app, if_neg (show ¬ (1 : Nat) = 11 by decide)]
        rw [ew2, fb_xorI, show (nI (w ^^^ c.2.2.2 x) / 64 : Int32) = nI ((w ^^^ c.2.2.2 x) / 64) from divI (d := 64) (by have := xor_lt14 hw ht; omega) (by decide) (by decide)]
        exact fin _ (OKp.set (hok2.cong (fun k hk => upd_n (by omega))) hd (by have := xor_lt14 hw ht; omega)) (hol2.cong (fun j hj => by rw [upd_n (by omega), upd_n (by omega)])) hp
    · have hx0 : x = 0 := nI_inj (b := 0) (by omega) (by decide) h1
      rw [if_pos hx0] at hp
      refine j_aload_n 4 dX6_block_32 rfl (j_bipush (v := 10) dX6_block_33 rfl (j_dup2 dX6_block_35 rfl rfl (j_iaload 10 dX6_block_36 (by first | assumption | rfl) (by first | assumption | rfl) (by omega) (j_iconst (v := 1) dX6_block_37 rfl (j_iadd dX6_block_38 (j_iastore 10 dX6_block_39 (by first | assumption | rfl) (by first | assumption | rfl) (by omega) (j_aload_n 4 dX6_block_40 rfl (j_bipush (v := 6) dX6_block_41 rfl (j_iconst (v := 0) dX6_block_43 rfl (j_iastore 6 dX6_block_44 (by first | assumption | rfl) (by first | assumption | rfl) (by omega) (j_aload_n 4 dX6_block_45 rfl (j_bipush (v := 18) dX6_block_46 rfl (j_iload_n 2 dX6_block_48 rfl (j_iadd dX6_block_49 (j_aload_n 4 dX6_block_50 rfl (j_iconst (v := 1) dX6_block_51 rfl (j_iaload 1 dX6_block_52 (by first | assumption | rfl) (by first | assumption | rfl) (by omega) (j_bipush (v := 64) dX6_block_53 rfl (j_idiv dX6_block_55 (by decide) (j_iastore (18 + d) dX6_block_56 (nI_add 18 d) (by first | assumption | rfl) (by omega) (j_goto (tgt := 131) dX6_block_57 rfl ?_)))))))))))))))))))))
      simp only [upI, upR_R, upR_s, upd_app, if_neg (show ¬ (1 : Nat) = 10 by decide), if_neg (show ¬ (1 : Nat) = 6 by decide)]
      rw [ew2, show (nI w / 64 : Int32) = nI (w / 64) from divI (d := 64) (by omega) (by decide) (by decide)]
      exact fin _ (OKp.set (hok2.cong (fun k hk => by rw [upd_n (by omega), upd_n (by omega)])) hd (by omega)) (hol2.cong (fun j hj => by rw [upd_n (by omega), upd_n (by omega), upd_n (by omega)])) hp
  refine j_iload_n 1 dX6_block_13 rfl (j_if_ne (tgt := 21) dX6_block_14 rfl (fun h1 => ?_) (fun h1 => ?_))
  · have : d ≠ 0 := fun z => h1 (by rw [z]; rfl)
    unfold cpF at key
    rw [if_neg this, fa_self] at key
    exact key
  · have h0 : d = 0 := nI_inj (b := 0) (by omega) (by decide) h1
    unfold cpF at key
    rw [if_pos h0] at key
    refine j_aload_n 3 dX6_block_17 rfl (j_S1 dX6_block_18 kX6_125 (c_noParts hK hL ?_))
    exact key
set_option maxHeartbeats 1000000 in
theorem c_hearBit {g : GT} {Z : ZT} {I : IT} {L : LT} {Post : PT} {a b : Nat} {c : CT} (hZ : isMo Z) (hc : MC I c) (ha : 203 ≤ a) (hK : zK Z a = 7) (hL : zL Z a = 47) (hok : OKr c.2.2.1 (I a)) (hb : b < 2) (hp : Post none Z (upR I a (htF c (I a) b)) L) : CM g 4 0 0 mX6_hearBit [.ref 198, .ref a, .int (nI b)] Z I L Post := by
  obtain ⟨⟨w, hw, ew⟩, o2, ⟨d, hd, ed⟩, o4, o5, o6, o7, o8, o9⟩ := id hok
  have hb1 := hok.b1 b
  have z1 := hZ.1
  refine CM_intro ?_
  refine j_aload_n 1 dX6_hearBit_0 rfl (j_iconst (v := 1) dX6_hearBit_1 rfl (j_iconst (v := 2) dX6_hearBit_2 rfl (j_aload_n 1 dX6_hearBit_3 rfl (j_iconst (v := 1) dX6_hearBit_4 rfl (j_iaload 1 dX6_hearBit_5 (by first | assumption | rfl) (by first | assumption | rfl) (by omega) (j_imul dX6_hearBit_6 (j_iload_n 2 dX6_hearBit_7 rfl (j_iadd dX6_hearBit_8 (j_sipush (v := 16383) dX6_hearBit_9 rfl (j_iand dX6_hearBit_12 (j_iastore 1 dX6_hearBit_13 (by first | assumption | rfl) (by first | assumption | rfl) (by omega) (j_aload_n 1 dX6_hearBit_14 rfl (j_iconst (v := 0) dX6_hearBit_15 rfl (j_dup2 dX6_hearBit_16 rfl rfl (j_iaload 0 dX6_hearBit_17 (by first | assumption | rfl) (by first | assumption | rfl) (by omega) (j_iconst (v := 1) dX6_hearBit_18 rfl (j_iadd dX6_hearBit_19 (j_iastore 0 dX6_hearBit_20 (by first | assumption | rfl) (by first | assumption | rfl) (by omega) (j_aload_n 1 dX6_hearBit_21 rfl (j_iconst (v := 2) dX6_hearBit_22 rfl (j_dup2 dX6_hearBit_23 rfl rfl (j_iaload 2 dX6_hearBit_24 (by first | assumption | rfl) (by first | assumption | rfl) (by omega) (j_iconst (v := 1) dX6_hearBit_25 rfl (j_iadd dX6_hearBit_26 (j_iastore 2 dX6_hearBit_27 (by first | assumption | rfl) (by first | assumption | rfl) (by omega) ?_)))))))))))))))))))))))))
  have e1 : (2 * I a 1 + nI b) &&& 16383 = nI ((2 * w + b) % 16384) := by
    rw [ew, show (2 : Int32) * nI w = nI (2 * w) from pk_mul 2 w, nI_add, and16383]
  have e2 : upI (upI (upI I a 1 ((2 * I a 1 + nI b) &&& 16383)) a 0 (upI I a 1 ((2 * I a 1 + nI b) &&& 16383) a 0 + 1)) a 2 (upI (upI I a 1 ((2 * I a 1 + nI b) &&& 16383)) a 0 (upI I a 1 ((2 * I a 1 + nI b) &&& 16383) a 0 + 1) a 2 + 1) = upR I a (b1F (I a) b) := by
    rw [e1]
    simp only [upI, upR_R, upR_s, upd_app]
    unfold b1F
    rw [ew, nN_nI (show w < 2 ^ 31 by omega)]
    rfl
  rw [e2]
  unfold htF at hp
  generalize b1F (I a) b = σ at hb1 hp ⊢
  have hcm := hc.up ha σ
  refine j_aload_n 1 dX6_hearBit_28 rfl (j_iconst (v := 3) dX6_hearBit_29 rfl (j_iaload 3 dX6_hearBit_30 (by first | assumption | rfl) (by first | assumption | rfl) (by omega) (j_if_ne (tgt := 40) dX6_hearBit_31 rfl (fun h1 => ?_) (fun h1 => ?_))))
  · rw [upR_s] at h1
    rw [if_neg h1] at hp
    refine j_aload_n 1 dX6_hearBit_40 rfl (j_iconst (v := 5) dX6_hearBit_41 rfl (j_dup2 dX6_hearBit_42 rfl rfl (j_iaload 5 dX6_hearBit_43 (by first | assumption | rfl) (by first | assumption | rfl) (by omega) (j_iconst (v := 1) dX6_hearBit_44 rfl (j_iadd dX6_hearBit_45 (j_iastore 5 dX6_hearBit_46 (by first | assumption | rfl) (by first | assumption | rfl) (by omega) ?_))))))
    simp only [upI, upR_R, upR_s]
    refine j_aload_n 1 dX6_hearBit_47 rfl (j_iconst (v := 5) dX6_hearBit_48 rfl (j_iaload 5 dX6_hearBit_49 (by first | assumption | rfl) (by first | assumption | rfl) (by omega) (j_bipush (v := 14) dX6_hearBit_50 rfl (j_icmp_ne (tgt := 64) dX6_hearBit_52 rfl (fun h2 => ?_) (fun h2 => ?_)))))
    · rw [upR_s, upd_s] at h2
      rw [if_neg h2] at hp
      refine j_vret dX6_hearBit_64 ?_
      exact hp
    · rw [upR_s, upd_s] at h2
      rw [if_pos h2] at hp
      refine j_aload_n 1 dX6_hearBit_55 rfl (j_iconst (v := 5) dX6_hearBit_56 rfl (j_iconst (v := 0) dX6_hearBit_57 rfl (j_iastore 5 dX6_hearBit_58 (by first | assumption | rfl) (by first | assumption | rfl) (by omega) (j_aload_n 0 dX6_hearBit_59 rfl (j_aload_n 1 dX6_hearBit_60 rfl ?_)))))
      simp only [upI, upR_R, upR_s]
      have hb2 : OKr c.2.2.1 (upd (upd σ 5 (σ 5 + 1)) 5 0) := by
        obtain ⟨k1, k2, k3, k4, k5, k6, k7, k8, k9⟩ := hb1
        exact ⟨k1, k2, k3, ⟨0, by decide, rfl⟩, k5, k6, k7, k8.cong (fun k hk => by rw [upd_n (by omega), upd_n (by omega)]), k9.cong (fun j hj => by rw [upd_n (by omega), upd_n (by omega)])⟩
      refine j_V1 dX6_hearBit_61 kX6_159 (by first | assumption | rfl) (c_block hZ (hc.up ha _) ha hK hL (by rw [upR_s]; exact hb2) (j_vret dX6_hearBit_64 ?_))
      simp only [upR_R, upR_s]
      exact hp
  · rw [upR_s] at h1
    rw [if_pos h1] at hp
    refine j_aload_n 0 dX6_hearBit_34 rfl (j_aload_n 1 dX6_hearBit_35 rfl (j_V1 dX6_hearBit_36 kX6_156 (by first | assumption | rfl) (c_seek hZ hcm hK hL (by rw [upR_s]; exact hb1) (j_vret dX6_hearBit_39 ?_))))
    simp only [upR_R, upR_s]
    exact hp
theorem MC.okh {I : IT} {c : CT} (h : MC I c) {ρ : RT} (ho : OKr c.2.2.1 ρ) (n v : Nat) : OKr c.2.2.1 (hsF c n ρ v) := by
  obtain ⟨c1, c2, c3, c4, c5, c6, c7, c8, c9, c10⟩ := h
  exact OKr.hs c6 c7 c2 c4 c9 v n ρ ho
theorem MC.okt {I : IT} {c : CT} (h : MC I c) {ρ : RT} (ho : OKr c.2.2.1 ρ) (b : Nat) : OKr c.2.2.1 (htF c ρ b) := by
  obtain ⟨c1, c2, c3, c4, c5, c6, c7, c8, c9, c10⟩ := h
  exact OKr.ht c6 c7 c2 c4 c9 ho b
theorem c_mHearBits {g : GT} {Z : ZT} {I : IT} {L : LT} {Post : PT} {a n v : Nat} {c : CT} (hZ : isMo Z) (hc : MC I c) (ha : 203 ≤ a) (hK : zK Z a = 7) (hL : zL Z a = 47) (hok : OKr c.2.2.1 (I a)) (hn : n ≤ 31) (hv : v < 2 ^ 31) (hp : Post none Z (upR I a (hsF c n (I a) v)) L) : CM g 5 0 0 mX6_hearBits [.ref 198, .ref a, .int (nI n), .int (nI v)] Z I L Post := by
  have z1 := hZ.1
  refine CM_intro ?_
  have loop : ∀ (j : Nat) (ρ : RT), j ≤ 31 → OKr c.2.2.1 ρ → hsF c j ρ v = hsF c n (I a) v → JW g mX6_hearBits (rmO 5 0 0) (QM Post 0 0) 5 [(4, .int (nI j + -1)), (0, .ref 198), (1, .ref a), (2, .int (nI n)), (3, .int (nI v))] [] 0 0 Z (upR I a ρ) L := by
    intro j
    induction j with
    | zero =>
      intro ρ _ ho e
      refine j_iload 0 dX6_hearBits_5 rfl (j_if_lt (tgt := 27) dX6_hearBits_7 rfl (fun h1 => ?_) (fun h1 => ?_))
      · refine j_vret dX6_hearBits_27 ?_
        rw [← e] at hp
        exact hp
      · exact absurd (by decide) h1
    | succ j ih =>
      intro ρ hj ho e
      rw [pk_m1 j]
      refine j_iload 0 dX6_hearBits_5 rfl (j_if_lt (tgt := 27) dX6_hearBits_7 rfl (fun h1 => ?_) (fun h1 => ?_))
      · exact absurd h1 (nI_pos (by omega))
      · refine j_aload_n 1 dX6_hearBits_10 rfl (j_aload_n 2 dX6_hearBits_11 rfl (j_iload_n 4 dX6_hearBits_12 rfl (j_iload 0 dX6_hearBits_13 rfl (j_ishr dX6_hearBits_15 (j_iconst (v := 1) dX6_hearBits_16 rfl (j_iand dX6_hearBits_17 ?_))))))
        rw [shrI hv (by omega), and1]
        refine j_V2 dX6_hearBits_18 kX6_162 (by first | assumption | rfl) (c_hearBit hZ (hc.up ha _) ha hK hL (by rw [upR_s]; exact ho) (Nat.mod_lt _ (by decide)) (j_iinc (y := -1) (lv' := [(4, _), (0, _), (1, _), (2, _), (3, _)]) 0 dX6_hearBits_21 rfl rfl rfl (j_goto (tgt := 5) dX6_hearBits_24 rfl ?_)))
        rw [upR_R, upR_s]
        exact JW.locals [0, 1, 2, 3, 4] rfl (ih _ (by omega) (hc.okt ho _) e)
  refine j_iload_n 2 dX6_hearBits_0 rfl (j_iconst (v := 1) dX6_hearBits_1 rfl (j_isub dX6_hearBits_2 (j_istore (lv' := [(4, _), (0, _), (1, _), (2, _), (3, _)]) dX6_hearBits_3 rfl ?_)))
  have h0 := loop n (I a) hn hok rfl
  rw [fa_self] at h0
  rw [show nI n - 1 = nI n + -1 from Int32.sub_eq_add_neg _ _]
  exact JW.locals [0, 1, 2, 3, 4] rfl h0
/-- the bytes of a GROUP -/
def byN (G : Int32) (k : Nat) : Nat := nN ((G >>> ((24 - 8 * nI k) &&& 31)) &&& 255)
theorem byI (x : Int32) : ∃ j, j < 256 ∧ x &&& 255 = nI j := pk_andE x 8 rfl
theorem byN_lt (G : Int32) (k : Nat) : byN G k < 256 := by
  unfold byN
  obtain ⟨j, hj, e⟩ := byI (G >>> ((24 - 8 * nI k) &&& 31))
  rw [e, nN_nI (by omega)]
  exact hj
theorem c_byteOf {g : GT} {Z : ZT} {I : IT} {L : LT} {Post : PT} {G : Int32} {k : Nat} (hp : Post (some (.int (nI (byN G k)))) Z I L) : CM g 0 0 0 mX6_byteOf [.int G, .int (nI k)] Z I L Post := by
  refine CM_intro ?_
  refine j_iload_n 0 dX6_byteOf_0 rfl (j_bipush (v := 24) dX6_byteOf_1 rfl (j_bipush (v := 8) dX6_byteOf_3 rfl (j_iload_n 1 dX6_byteOf_5 rfl (j_imul dX6_byteOf_6 (j_isub dX6_byteOf_7 (j_ishr dX6_byteOf_8 (j_sipush (v := 255) dX6_byteOf_9 rfl (j_iand dX6_byteOf_12 (j_iret dX6_byteOf_13 ?_)))))))))
  unfold byN at hp
  obtain ⟨j, hj, e⟩ := byI (G >>> ((24 - 8 * nI k) &&& 31))
  rw [e, nN_nI (by omega)] at hp
  rw [e]
  exact hp
/-- a GROUP is heard, all bits of some words turned -/
def gwN (c : CT) (G : Int32) (t k : Nat) : Nat := wdN c k (byN G k) ^^^ (if t.testBit k then 16383 else 0)
noncomputable def hgF (c : CT) (G : Int32) (t : Nat) : Nat → RT → RT
  | 0, ρ => ρ
  | k + 1, ρ => hsF c 14 (hgF c G t k ρ) (gwN c G t k)
theorem gwN_lt {c : CT} {G : Int32} {t k : Nat} (h1 : c.1 < 64) (h2 : c.2.1 k < 64) : gwN c G t k < 16384 := by
  unfold gwN
  exact xor_lt14 (wdN_lt h1 h2 (byN_lt G k)) (by split <;> decide)
theorem MC.okg {I : IT} {c : CT} (h : MC I c) {ρ : RT} (ho : OKr c.2.2.1 ρ) (G : Int32) (t : Nat) : ∀ k, OKr c.2.2.1 (hgF c G t k ρ)
  | 0 => ho
  | k + 1 => h.okh (h.okg ho G t k) 14 _
set_option maxHeartbeats 1000000 in
theorem c_hearGroup {g : GT} {Z : ZT} {I : IT} {L : LT} {Post : PT} {a t : Nat} {G : Int32} {c : CT} (hZ : isMo Z) (hc : MC I c) (ha : 203 ≤ a) (hK : zK Z a = 7) (hL : zL Z a = 47) (hok : OKr c.2.2.1 (I a)) (ht : t < 2 ^ 31) (hp : Post none Z (upR I a (hgF c G t 4 (I a))) L) : CM g 6 0 0 mX6_hearGroup [.ref 198, .ref a, .int G, .int (nI t)] Z I L Post := by
  obtain ⟨c1, c2, c3, c4, c5, c6, c7, c8, c9, c10⟩ := id hc
  have z1 := hZ.1
  refine CM_intro ?_
  have loop : ∀ (n k : Nat), k + n = 4 → JW g mX6_hearGroup (rmO 6 0 0) (QM Post 0 0) 3 [(4, .int (nI k)), (0, .ref 198), (1, .ref a), (2, .int G), (3, .int (nI t))] [] 0 0 Z (upR I a (hgF c G t k (I a))) L := by
    intro n
    induction n with
    | zero =>
      intro k hk
      have : k = 4 := by omega
      subst this
      refine j_iload 0 dX6_hearGroup_3 rfl (j_iconst (v := 4) dX6_hearGroup_5 rfl (j_icmp_ge (tgt := 51) dX6_hearGroup_6 rfl (fun h1 => ?_) (fun h1 => ?_)))
      · refine j_vret dX6_hearGroup_51 ?_
        exact hp
      · exact absurd (by decide) h1
    | succ n ih =>
      intro k hk
      have hk4 : k < 4 := by omega
      have hcu := hc.up ha (hgF c G t k (I a))
      have hoh := hc.okg hok G t k
      have hwl := gwN_lt (c := c) (G := G) (t := t) c2 (c4 k hk4)
      have fin : JW g mX6_hearGroup (rmO 6 0 0) (QM Post 0 0) 42 [(4, .int (nI k)), (0, .ref 198), (1, .ref a), (2, .int G), (3, .int (nI t))] [.int (nI (gwN c G t k)), .int 14, .ref a, .ref 198] 0 0 Z (upR I a (hgF c G t k (I a))) L := by
        refine j_V3 dX6_hearGroup_42 kX6_171 (by first | assumption | rfl) (c_mHearBits (n := 14) hZ hcu ha hK hL (by rw [upR_s]; exact hoh) (by omega) (by omega) (j_iinc (y := 1) (lv' := [(4, _), (0, _), (1, _), (2, _), (3, _)]) 0 dX6_hearGroup_45 rfl rfl rfl (j_goto (tgt := 3) dX6_hearGroup_48 rfl ?_)))
        rw [upR_R, upR_s, nI_1]
        exact JW.locals [0, 1, 2, 3, 4] rfl (ih (k + 1) (by omega))
      unfold gwN at fin
      refine j_iload 0 dX6_hearGroup_3 rfl (j_iconst (v := 4) dX6_hearGroup_5 rfl (j_icmp_ge (tgt := 51) dX6_hearGroup_6 rfl (fun h1 => ?_) (fun h1 => ?_)))
      · exact absurd h1 (nI_ge hk4 (by decide))
      · refine j_aload_n 1 dX6_hearGroup_9 rfl (j_aload_n 2 dX6_hearGroup_10 rfl (j_bipush (v := 14) dX6_hearGroup_11 rfl (j_aload_n 1 dX6_hearGroup_13 rfl (j_iload 0 dX6_hearGroup_14 rfl (j_iload_n 3 dX6_hearGroup_16 rfl (j_iload 0 dX6_hearGroup_17 rfl (j_S2 dX6_hearGroup_19 kX6_165 (c_byteOf (j_V2 dX6_hearGroup_22 kX6_168 (by first | assumption | rfl) (c_mWord hZ hcu hk4 (byN_lt G k) (j_iload_n 4 dX6_hearGroup_25 rfl (j_iload 0 dX6_hearGroup_26 rfl (j_S2 dX6_hearGroup_28 kX6_72 (c_has ht (by omega) (fun hb => ?_) (fun hb => ?_)))))))))))))))
        · refine j_if_eq (tgt := 40) dX6_hearGroup_31 rfl (fun h9 => absurd h9 (by decide)) (fun _ => (j_sipush (v := 16383) dX6_hearGroup_34 rfl (j_goto (tgt := 41) dX6_hearGroup_37 rfl (j_ixor dX6_hearGroup_41 ?_))))
          rw [hb, if_pos rfl] at fin
          rw [show (16383 : Int32) = nI 16383 from rfl, fb_xorI]
          exact fin
        · refine j_if_eq (tgt := 40) dX6_hearGroup_31 rfl (fun _ => (j_iconst (v := 0) dX6_hearGroup_40 rfl (j_ixor dX6_hearGroup_41 ?_))) (fun h9 => absurd (by decide) h9)
          rw [hb, if_neg (by decide)] at fin
          rw [show (0 : Int32) = nI 0 from rfl, fb_xorI]
          exact fin
  refine j_iconst (v := 0) dX6_hearGroup_0 rfl (j_istore (lv' := [(4, _), (0, _), (1, _), (2, _), (3, _)]) dX6_hearGroup_1 rfl ?_)
  have h0 := loop 4 0 rfl
  rw [show hgF c G t 0 (I a) = I a from rfl, fa_self] at h0
  exact JW.locals [0, 1, 2, 3, 4] rfl h0
end
