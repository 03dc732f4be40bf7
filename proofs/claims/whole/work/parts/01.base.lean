-- ===== PART A: goes FIRST, ahead of the names: the tables' words, and 'selects' of the private methods out of them =====
/-- a private method of a class that the tables say can be made, by its rows of tables_1 -/
def lw_okq (q : MethodName × Nat) : Prop := (q.1.cls ≠ "java/lang/invoke/MethodHandle" ∧ q.1.cls ≠ "java/lang/invoke/VarHandle") ∧ Cond.instantiable q.1.cls q.2 ∈ tables_1 ∧ Cond.privateMethod q.1 ∈ tables_1 ∧ Cond.instanceMethod q.1 ∈ tables_1
theorem lw_p0 : lw_okq (⟨"VersionSearch$State", "isTold", "(II)Z"⟩, 7) := ⟨⟨by decide +kernel, by decide +kernel⟩, List.mem_of_getElem? (i := 31) (by decide +kernel), List.mem_of_getElem? (i := 364) (by decide +kernel), List.mem_of_getElem? (i := 365) (by decide +kernel)⟩
theorem lw_p1 : lw_okq (⟨"VersionSearch$Reader", "noteNoText", "(LVersionSearch$Tape;I)V"⟩, 6) := ⟨⟨by decide +kernel, by decide +kernel⟩, List.mem_of_getElem? (i := 189) (by decide +kernel), List.mem_of_getElem? (i := 379) (by decide +kernel), List.mem_of_getElem? (i := 380) (by decide +kernel)⟩
theorem lw_p2 : lw_okq (⟨"VersionSearch$Tape", "byteAt", "(I)I"⟩, 5) := ⟨⟨by decide +kernel, by decide +kernel⟩, List.mem_of_getElem? (i := 37) (by decide +kernel), List.mem_of_getElem? (i := 395) (by decide +kernel), List.mem_of_getElem? (i := 396) (by decide +kernel)⟩
theorem lw_p3 : lw_okq (⟨"VersionSearch$Line", "takesNumber", "(LVersionSearch$Tape;)Z"⟩, 9) := ⟨⟨by decide +kernel, by decide +kernel⟩, List.mem_of_getElem? (i := 195) (by decide +kernel), List.mem_of_getElem? (i := 496) (by decide +kernel), List.mem_of_getElem? (i := 497) (by decide +kernel)⟩
theorem lw_p4 : lw_okq (⟨"VersionSearch$Line", "takesWord", "(LVersionSearch$Tape;)Z"⟩, 9) := ⟨⟨by decide +kernel, by decide +kernel⟩, List.mem_of_getElem? (i := 195) (by decide +kernel), List.mem_of_getElem? (i := 505) (by decide +kernel), List.mem_of_getElem? (i := 506) (by decide +kernel)⟩
theorem lw_p5 : lw_okq (⟨"VersionSearch$Reader", "note", "(II)V"⟩, 6) := ⟨⟨by decide +kernel, by decide +kernel⟩, List.mem_of_getElem? (i := 189) (by decide +kernel), List.mem_of_getElem? (i := 517) (by decide +kernel), List.mem_of_getElem? (i := 518) (by decide +kernel)⟩
theorem lw_p6 : lw_okq (⟨"VersionSearch$Reader", "noteWhatCanNotBe", "()V"⟩, 6) := ⟨⟨by decide +kernel, by decide +kernel⟩, List.mem_of_getElem? (i := 189) (by decide +kernel), List.mem_of_getElem? (i := 521) (by decide +kernel), List.mem_of_getElem? (i := 522) (by decide +kernel)⟩
theorem lw_p7 : lw_okq (⟨"VersionSearch$Reader", "least", "(I)I"⟩, 6) := ⟨⟨by decide +kernel, by decide +kernel⟩, List.mem_of_getElem? (i := 189) (by decide +kernel), List.mem_of_getElem? (i := 530) (by decide +kernel), List.mem_of_getElem? (i := 531) (by decide +kernel)⟩
theorem lw_p8 : lw_okq (⟨"VersionSearch$Reader", "most", "(I)I"⟩, 6) := ⟨⟨by decide +kernel, by decide +kernel⟩, List.mem_of_getElem? (i := 189) (by decide +kernel), List.mem_of_getElem? (i := 534) (by decide +kernel), List.mem_of_getElem? (i := 535) (by decide +kernel)⟩
theorem lw_p9 : lw_okq (⟨"VersionSearch$Reader", "takeVersion", "(I)V"⟩, 6) := ⟨⟨by decide +kernel, by decide +kernel⟩, List.mem_of_getElem? (i := 189) (by decide +kernel), List.mem_of_getElem? (i := 542) (by decide +kernel), List.mem_of_getElem? (i := 543) (by decide +kernel)⟩
theorem lw_p10 : lw_okq (⟨"VersionSearch$Reader", "noteTooManyWords", "(I)V"⟩, 6) := ⟨⟨by decide +kernel, by decide +kernel⟩, List.mem_of_getElem? (i := 189) (by decide +kernel), List.mem_of_getElem? (i := 546) (by decide +kernel), List.mem_of_getElem? (i := 547) (by decide +kernel)⟩
theorem lw_p11 : lw_okq (⟨"VersionSearch$Reader", "noteFirstToken", "()V"⟩, 6) := ⟨⟨by decide +kernel, by decide +kernel⟩, List.mem_of_getElem? (i := 189) (by decide +kernel), List.mem_of_getElem? (i := 550) (by decide +kernel), List.mem_of_getElem? (i := 551) (by decide +kernel)⟩
theorem lw_p12 : lw_okq (⟨"VersionSearch$Reader", "isThere", "(II)Z"⟩, 6) := ⟨⟨by decide +kernel, by decide +kernel⟩, List.mem_of_getElem? (i := 189) (by decide +kernel), List.mem_of_getElem? (i := 576) (by decide +kernel), List.mem_of_getElem? (i := 577) (by decide +kernel)⟩
theorem lw_p13 : lw_okq (⟨"VersionSearch$Reader", "makeVersion", "(I)V"⟩, 6) := ⟨⟨by decide +kernel, by decide +kernel⟩, List.mem_of_getElem? (i := 189) (by decide +kernel), List.mem_of_getElem? (i := 584) (by decide +kernel), List.mem_of_getElem? (i := 585) (by decide +kernel)⟩
theorem lw_p14 : lw_okq (⟨"VersionSearch$Archive", "open", "(II)I"⟩, 12) := ⟨⟨by decide +kernel, by decide +kernel⟩, List.mem_of_getElem? (i := 69) (by decide +kernel), List.mem_of_getElem? (i := 592) (by decide +kernel), List.mem_of_getElem? (i := 593) (by decide +kernel)⟩
theorem lw_p15 : lw_okq (⟨"VersionSearch$Archive", "newToken", "(II)I"⟩, 12) := ⟨⟨by decide +kernel, by decide +kernel⟩, List.mem_of_getElem? (i := 69) (by decide +kernel), List.mem_of_getElem? (i := 600) (by decide +kernel), List.mem_of_getElem? (i := 601) (by decide +kernel)⟩
def lw_privs_1 : List (MethodName × Nat) := [(⟨"VersionSearch$State", "isTold", "(II)Z"⟩, 7), (⟨"VersionSearch$Reader", "noteNoText", "(LVersionSearch$Tape;I)V"⟩, 6), (⟨"VersionSearch$Tape", "byteAt", "(I)I"⟩, 5), (⟨"VersionSearch$Line", "takesNumber", "(LVersionSearch$Tape;)Z"⟩, 9), (⟨"VersionSearch$Line", "takesWord", "(LVersionSearch$Tape;)Z"⟩, 9), (⟨"VersionSearch$Reader", "note", "(II)V"⟩, 6), (⟨"VersionSearch$Reader", "noteWhatCanNotBe", "()V"⟩, 6), (⟨"VersionSearch$Reader", "least", "(I)I"⟩, 6), (⟨"VersionSearch$Reader", "most", "(I)I"⟩, 6), (⟨"VersionSearch$Reader", "takeVersion", "(I)V"⟩, 6), (⟨"VersionSearch$Reader", "noteTooManyWords", "(I)V"⟩, 6), (⟨"VersionSearch$Reader", "noteFirstToken", "()V"⟩, 6), (⟨"VersionSearch$Reader", "isThere", "(II)Z"⟩, 6), (⟨"VersionSearch$Reader", "makeVersion", "(I)V"⟩, 6), (⟨"VersionSearch$Archive", "open", "(II)I"⟩, 12), (⟨"VersionSearch$Archive", "newToken", "(II)I"⟩, 12)]
theorem lw_r1 : ∀ q ∈ lw_privs_1, lw_okq q := List.forall_mem_cons.mpr ⟨lw_p0, List.forall_mem_cons.mpr ⟨lw_p1, List.forall_mem_cons.mpr ⟨lw_p2, List.forall_mem_cons.mpr ⟨lw_p3, List.forall_mem_cons.mpr ⟨lw_p4, List.forall_mem_cons.mpr ⟨lw_p5, List.forall_mem_cons.mpr ⟨lw_p6, List.forall_mem_cons.mpr ⟨lw_p7, List.forall_mem_cons.mpr ⟨lw_p8, List.forall_mem_cons.mpr ⟨lw_p9, List.forall_mem_cons.mpr ⟨lw_p10, List.forall_mem_cons.mpr ⟨lw_p11, List.forall_mem_cons.mpr ⟨lw_p12, List.forall_mem_cons.mpr ⟨lw_p13, List.forall_mem_cons.mpr ⟨lw_p14, List.forall_mem_cons.mpr ⟨lw_p15, fun _ h => absurd h List.not_mem_nil⟩⟩⟩⟩⟩⟩⟩⟩⟩⟩⟩⟩⟩⟩⟩⟩
theorem lw_p16 : lw_okq (⟨"VersionSearch$Archive", "insert", "(III)V"⟩, 12) := ⟨⟨by decide +kernel, by decide +kernel⟩, List.mem_of_getElem? (i := 69) (by decide +kernel), List.mem_of_getElem? (i := 604) (by decide +kernel), List.mem_of_getElem? (i := 605) (by decide +kernel)⟩
theorem lw_p17 : lw_okq (⟨"VersionSearch$Archive", "close", "(III)V"⟩, 12) := ⟨⟨by decide +kernel, by decide +kernel⟩, List.mem_of_getElem? (i := 69) (by decide +kernel), List.mem_of_getElem? (i := 608) (by decide +kernel), List.mem_of_getElem? (i := 609) (by decide +kernel)⟩
theorem lw_p18 : lw_okq (⟨"VersionSearch$Archive", "remove", "(II)I"⟩, 12) := ⟨⟨by decide +kernel, by decide +kernel⟩, List.mem_of_getElem? (i := 69) (by decide +kernel), List.mem_of_getElem? (i := 620) (by decide +kernel), List.mem_of_getElem? (i := 621) (by decide +kernel)⟩
theorem lw_p19 : lw_okq (⟨"VersionSearch$Reader", "takeQuestion", "()V"⟩, 6) := ⟨⟨by decide +kernel, by decide +kernel⟩, List.mem_of_getElem? (i := 189) (by decide +kernel), List.mem_of_getElem? (i := 632) (by decide +kernel), List.mem_of_getElem? (i := 633) (by decide +kernel)⟩
theorem lw_p20 : lw_okq (⟨"VersionSearch$Reader", "takeFact", "()V"⟩, 6) := ⟨⟨by decide +kernel, by decide +kernel⟩, List.mem_of_getElem? (i := 189) (by decide +kernel), List.mem_of_getElem? (i := 648) (by decide +kernel), List.mem_of_getElem? (i := 649) (by decide +kernel)⟩
theorem lw_p21 : lw_okq (⟨"VersionSearch$Archive", "placeOfWord", "(I)I"⟩, 12) := ⟨⟨by decide +kernel, by decide +kernel⟩, List.mem_of_getElem? (i := 69) (by decide +kernel), List.mem_of_getElem? (i := 662) (by decide +kernel), List.mem_of_getElem? (i := 663) (by decide +kernel)⟩
theorem lw_p22 : lw_okq (⟨"VersionSearch$Archive", "openWord", "(II)V"⟩, 12) := ⟨⟨by decide +kernel, by decide +kernel⟩, List.mem_of_getElem? (i := 69) (by decide +kernel), List.mem_of_getElem? (i := 670) (by decide +kernel), List.mem_of_getElem? (i := 671) (by decide +kernel)⟩
theorem lw_p23 : lw_okq (⟨"VersionSearch$History", "twinsAhead", "(LVersionSearch$Archive;II)I"⟩, 1) := ⟨⟨by decide +kernel, by decide +kernel⟩, List.mem_of_getElem? (i := 272) (by decide +kernel), List.mem_of_getElem? (i := 758) (by decide +kernel), List.mem_of_getElem? (i := 759) (by decide +kernel)⟩
theorem lw_p24 : lw_okq (⟨"VersionSearch$History", "sameWords", "(LVersionSearch$Archive;IIII)Z"⟩, 1) := ⟨⟨by decide +kernel, by decide +kernel⟩, List.mem_of_getElem? (i := 272) (by decide +kernel), List.mem_of_getElem? (i := 762) (by decide +kernel), List.mem_of_getElem? (i := 763) (by decide +kernel)⟩
theorem lw_p25 : lw_okq (⟨"VersionSearch", "ofDocument", "(LVersionSearch$Archive;I)I"⟩, 6) := ⟨⟨by decide +kernel, by decide +kernel⟩, List.mem_of_getElem? (i := 23) (by decide +kernel), List.mem_of_getElem? (i := 770) (by decide +kernel), List.mem_of_getElem? (i := 771) (by decide +kernel)⟩
theorem lw_p26 : lw_okq (⟨"VersionSearch$History", "stayTogether", "(LVersionSearch$Archive;III)Z"⟩, 1) := ⟨⟨by decide +kernel, by decide +kernel⟩, List.mem_of_getElem? (i := 272) (by decide +kernel), List.mem_of_getElem? (i := 784) (by decide +kernel), List.mem_of_getElem? (i := 785) (by decide +kernel)⟩
theorem lw_p27 : lw_okq (⟨"VersionSearch$History", "placeOf", "(LVersionSearch$Archive;III)I"⟩, 1) := ⟨⟨by decide +kernel, by decide +kernel⟩, List.mem_of_getElem? (i := 272) (by decide +kernel), List.mem_of_getElem? (i := 791) (by decide +kernel), List.mem_of_getElem? (i := 792) (by decide +kernel)⟩
theorem lw_p28 : lw_okq (⟨"VersionSearch$History", "wasBefore", "(LVersionSearch$Archive;II)Z"⟩, 1) := ⟨⟨by decide +kernel, by decide +kernel⟩, List.mem_of_getElem? (i := 272) (by decide +kernel), List.mem_of_getElem? (i := 809) (by decide +kernel), List.mem_of_getElem? (i := 810) (by decide +kernel)⟩
theorem lw_p29 : lw_okq (⟨"VersionSearch$Search", "lookIn", "(LVersionSearch$Archive;LVersionSearch$Questions;II)I"⟩, 1) := ⟨⟨by decide +kernel, by decide +kernel⟩, List.mem_of_getElem? (i := 282) (by decide +kernel), List.mem_of_getElem? (i := 965) (by decide +kernel), List.mem_of_getElem? (i := 966) (by decide +kernel)⟩
theorem lw_p30 : lw_okq (⟨"VersionSearch$Search", "lookAtWords", "(LVersionSearch$Archive;LVersionSearch$Questions;II)I"⟩, 1) := ⟨⟨by decide +kernel, by decide +kernel⟩, List.mem_of_getElem? (i := 282) (by decide +kernel), List.mem_of_getElem? (i := 977) (by decide +kernel), List.mem_of_getElem? (i := 978) (by decide +kernel)⟩
theorem lw_p31 : lw_okq (⟨"VersionSearch$Search", "areNear", "(LVersionSearch$Archive;LVersionSearch$Questions;III)Z"⟩, 1) := ⟨⟨by decide +kernel, by decide +kernel⟩, List.mem_of_getElem? (i := 282) (by decide +kernel), List.mem_of_getElem? (i := 990) (by decide +kernel), List.mem_of_getElem? (i := 991) (by decide +kernel)⟩
def lw_privs_2 : List (MethodName × Nat) := [(⟨"VersionSearch$Archive", "insert", "(III)V"⟩, 12), (⟨"VersionSearch$Archive", "close", "(III)V"⟩, 12), (⟨"VersionSearch$Archive", "remove", "(II)I"⟩, 12), (⟨"VersionSearch$Reader", "takeQuestion", "()V"⟩, 6), (⟨"VersionSearch$Reader", "takeFact", "()V"⟩, 6), (⟨"VersionSearch$Archive", "placeOfWord", "(I)I"⟩, 12), (⟨"VersionSearch$Archive", "openWord", "(II)V"⟩, 12), (⟨"VersionSearch$History", "twinsAhead", "(LVersionSearch$Archive;II)I"⟩, 1), (⟨"VersionSearch$History", "sameWords", "(LVersionSearch$Archive;IIII)Z"⟩, 1), (⟨"VersionSearch", "ofDocument", "(LVersionSearch$Archive;I)I"⟩, 6), (⟨"VersionSearch$History", "stayTogether", "(LVersionSearch$Archive;III)Z"⟩, 1), (⟨"VersionSearch$History", "placeOf", "(LVersionSearch$Archive;III)I"⟩, 1), (⟨"VersionSearch$History", "wasBefore", "(LVersionSearch$Archive;II)Z"⟩, 1), (⟨"VersionSearch$Search", "lookIn", "(LVersionSearch$Archive;LVersionSearch$Questions;II)I"⟩, 1), (⟨"VersionSearch$Search", "lookAtWords", "(LVersionSearch$Archive;LVersionSearch$Questions;II)I"⟩, 1), (⟨"VersionSearch$Search", "areNear", "(LVersionSearch$Archive;LVersionSearch$Questions;III)Z"⟩, 1)]
theorem lw_r2 : ∀ q ∈ lw_privs_2, lw_okq q := List.forall_mem_cons.mpr ⟨lw_p16, List.forall_mem_cons.mpr ⟨lw_p17, List.forall_mem_cons.mpr ⟨lw_p18, List.forall_mem_cons.mpr ⟨lw_p19, List.forall_mem_cons.mpr ⟨lw_p20, List.forall_mem_cons.mpr ⟨lw_p21, List.forall_mem_cons.mpr ⟨lw_p22, List.forall_mem_cons.mpr ⟨lw_p23, List.forall_mem_cons.mpr ⟨lw_p24, List.forall_mem_cons.mpr ⟨lw_p25, List.forall_mem_cons.mpr ⟨lw_p26, List.forall_mem_cons.mpr ⟨lw_p27, List.forall_mem_cons.mpr ⟨lw_p28, List.forall_mem_cons.mpr ⟨lw_p29, List.forall_mem_cons.mpr ⟨lw_p30, List.forall_mem_cons.mpr ⟨lw_p31, fun _ h => absurd h List.not_mem_nil⟩⟩⟩⟩⟩⟩⟩⟩⟩⟩⟩⟩⟩⟩⟩⟩
theorem lw_p32 : lw_okq (⟨"VersionSearch$Search", "areMany", "(LVersionSearch$Archive;LVersionSearch$Questions;III)Z"⟩, 1) := ⟨⟨by decide +kernel, by decide +kernel⟩, List.mem_of_getElem? (i := 282) (by decide +kernel), List.mem_of_getElem? (i := 997) (by decide +kernel), List.mem_of_getElem? (i := 998) (by decide +kernel)⟩
theorem lw_p33 : lw_okq (⟨"VersionSearch$Search", "isChange", "(LVersionSearch$Archive;II)Z"⟩, 1) := ⟨⟨by decide +kernel, by decide +kernel⟩, List.mem_of_getElem? (i := 282) (by decide +kernel), List.mem_of_getElem? (i := 1034) (by decide +kernel), List.mem_of_getElem? (i := 1035) (by decide +kernel)⟩
theorem lw_p34 : lw_okq (⟨"VersionSearch", "foundAt", "(LVersionSearch$Archive;II)I"⟩, 6) := ⟨⟨by decide +kernel, by decide +kernel⟩, List.mem_of_getElem? (i := 23) (by decide +kernel), List.mem_of_getElem? (i := 1049) (by decide +kernel), List.mem_of_getElem? (i := 1050) (by decide +kernel)⟩
theorem lw_p35 : lw_okq (⟨"VersionSearch$Search", "isAhead", "(LVersionSearch$Archive;III)Z"⟩, 1) := ⟨⟨by decide +kernel, by decide +kernel⟩, List.mem_of_getElem? (i := 282) (by decide +kernel), List.mem_of_getElem? (i := 1057) (by decide +kernel), List.mem_of_getElem? (i := 1058) (by decide +kernel)⟩
theorem lw_p36 : lw_okq (⟨"VersionSearch$Search", "latestHeld", "(LVersionSearch$Archive;II)I"⟩, 1) := ⟨⟨by decide +kernel, by decide +kernel⟩, List.mem_of_getElem? (i := 282) (by decide +kernel), List.mem_of_getElem? (i := 1061) (by decide +kernel), List.mem_of_getElem? (i := 1062) (by decide +kernel)⟩
theorem lw_p37 : lw_okq (⟨"VersionSearch$Hunt", "slotsTold", "(I)J"⟩, 2) := ⟨⟨by decide +kernel, by decide +kernel⟩, List.mem_of_getElem? (i := 148) (by decide +kernel), List.mem_of_getElem? (i := 1118) (by decide +kernel), List.mem_of_getElem? (i := 1119) (by decide +kernel)⟩
theorem lw_p38 : lw_okq (⟨"VersionSearch$Hunt", "fittingIn", "(LVersionSearch$Archive;I)I"⟩, 2) := ⟨⟨by decide +kernel, by decide +kernel⟩, List.mem_of_getElem? (i := 148) (by decide +kernel), List.mem_of_getElem? (i := 1142) (by decide +kernel), List.mem_of_getElem? (i := 1143) (by decide +kernel)⟩
theorem lw_p39 : lw_okq (⟨"VersionSearch$Drawing", "below", "(I)I"⟩, 3) := ⟨⟨by decide +kernel, by decide +kernel⟩, List.mem_of_getElem? (i := 292) (by decide +kernel), List.mem_of_getElem? (i := 1161) (by decide +kernel), List.mem_of_getElem? (i := 1162) (by decide +kernel)⟩
theorem lw_p40 : lw_okq (⟨"VersionSearch$Drawing", "deed", "(II)V"⟩, 3) := ⟨⟨by decide +kernel, by decide +kernel⟩, List.mem_of_getElem? (i := 292) (by decide +kernel), List.mem_of_getElem? (i := 1166) (by decide +kernel), List.mem_of_getElem? (i := 1167) (by decide +kernel)⟩
theorem lw_p41 : lw_okq (⟨"VersionSearch$Drawing", "cut", "(I)V"⟩, 3) := ⟨⟨by decide +kernel, by decide +kernel⟩, List.mem_of_getElem? (i := 292) (by decide +kernel), List.mem_of_getElem? (i := 1171) (by decide +kernel), List.mem_of_getElem? (i := 1172) (by decide +kernel)⟩
theorem lw_p42 : lw_okq (⟨"VersionSearch$Drawing", "mayGoOn", "(I)Z"⟩, 3) := ⟨⟨by decide +kernel, by decide +kernel⟩, List.mem_of_getElem? (i := 292) (by decide +kernel), List.mem_of_getElem? (i := 1175) (by decide +kernel), List.mem_of_getElem? (i := 1176) (by decide +kernel)⟩
theorem lw_p43 : lw_okq (⟨"VersionSearch$Drawing", "put", "(I)V"⟩, 3) := ⟨⟨by decide +kernel, by decide +kernel⟩, List.mem_of_getElem? (i := 292) (by decide +kernel), List.mem_of_getElem? (i := 1185) (by decide +kernel), List.mem_of_getElem? (i := 1186) (by decide +kernel)⟩
theorem lw_p44 : lw_okq (⟨"VersionSearch$Drawing", "move", "(I)V"⟩, 3) := ⟨⟨by decide +kernel, by decide +kernel⟩, List.mem_of_getElem? (i := 292) (by decide +kernel), List.mem_of_getElem? (i := 1192) (by decide +kernel), List.mem_of_getElem? (i := 1193) (by decide +kernel)⟩
theorem lw_p45 : lw_okq (⟨"VersionSearch$Drawing", "back", "(I)V"⟩, 3) := ⟨⟨by decide +kernel, by decide +kernel⟩, List.mem_of_getElem? (i := 292) (by decide +kernel), List.mem_of_getElem? (i := 1197) (by decide +kernel), List.mem_of_getElem? (i := 1198) (by decide +kernel)⟩
theorem lw_p46 : lw_okq (⟨"VersionSearchModel", "four", "(I)V"⟩, 37) := ⟨⟨by decide +kernel, by decide +kernel⟩, List.mem_of_getElem? (i := 1231) (by decide +kernel), List.mem_of_getElem? (i := 1354) (by decide +kernel), List.mem_of_getElem? (i := 1355) (by decide +kernel)⟩
theorem lw_p47 : lw_okq (⟨"VersionSearchModel", "is", "(II)Z"⟩, 37) := ⟨⟨by decide +kernel, by decide +kernel⟩, List.mem_of_getElem? (i := 1231) (by decide +kernel), List.mem_of_getElem? (i := 1369) (by decide +kernel), List.mem_of_getElem? (i := 1370) (by decide +kernel)⟩
def lw_privs_3 : List (MethodName × Nat) := [(⟨"VersionSearch$Search", "areMany", "(LVersionSearch$Archive;LVersionSearch$Questions;III)Z"⟩, 1), (⟨"VersionSearch$Search", "isChange", "(LVersionSearch$Archive;II)Z"⟩, 1), (⟨"VersionSearch", "foundAt", "(LVersionSearch$Archive;II)I"⟩, 6), (⟨"VersionSearch$Search", "isAhead", "(LVersionSearch$Archive;III)Z"⟩, 1), (⟨"VersionSearch$Search", "latestHeld", "(LVersionSearch$Archive;II)I"⟩, 1), (⟨"VersionSearch$Hunt", "slotsTold", "(I)J"⟩, 2), (⟨"VersionSearch$Hunt", "fittingIn", "(LVersionSearch$Archive;I)I"⟩, 2), (⟨"VersionSearch$Drawing", "below", "(I)I"⟩, 3), (⟨"VersionSearch$Drawing", "deed", "(II)V"⟩, 3), (⟨"VersionSearch$Drawing", "cut", "(I)V"⟩, 3), (⟨"VersionSearch$Drawing", "mayGoOn", "(I)Z"⟩, 3), (⟨"VersionSearch$Drawing", "put", "(I)V"⟩, 3), (⟨"VersionSearch$Drawing", "move", "(I)V"⟩, 3), (⟨"VersionSearch$Drawing", "back", "(I)V"⟩, 3), (⟨"VersionSearchModel", "four", "(I)V"⟩, 37), (⟨"VersionSearchModel", "is", "(II)Z"⟩, 37)]
theorem lw_r3 : ∀ q ∈ lw_privs_3, lw_okq q := List.forall_mem_cons.mpr ⟨lw_p32, List.forall_mem_cons.mpr ⟨lw_p33, List.forall_mem_cons.mpr ⟨lw_p34, List.forall_mem_cons.mpr ⟨lw_p35, List.forall_mem_cons.mpr ⟨lw_p36, List.forall_mem_cons.mpr ⟨lw_p37, List.forall_mem_cons.mpr ⟨lw_p38, List.forall_mem_cons.mpr ⟨lw_p39, List.forall_mem_cons.mpr ⟨lw_p40, List.forall_mem_cons.mpr ⟨lw_p41, List.forall_mem_cons.mpr ⟨lw_p42, List.forall_mem_cons.mpr ⟨lw_p43, List.forall_mem_cons.mpr ⟨lw_p44, List.forall_mem_cons.mpr ⟨lw_p45, List.forall_mem_cons.mpr ⟨lw_p46, List.forall_mem_cons.mpr ⟨lw_p47, fun _ h => absurd h List.not_mem_nil⟩⟩⟩⟩⟩⟩⟩⟩⟩⟩⟩⟩⟩⟩⟩⟩
theorem lw_p48 : lw_okq (⟨"VersionSearchModel", "readText", "(I)Z"⟩, 37) := ⟨⟨by decide +kernel, by decide +kernel⟩, List.mem_of_getElem? (i := 1231) (by decide +kernel), List.mem_of_getElem? (i := 1373) (by decide +kernel), List.mem_of_getElem? (i := 1374) (by decide +kernel)⟩
theorem lw_p49 : lw_okq (⟨"VersionSearchModel", "token", "()V"⟩, 37) := ⟨⟨by decide +kernel, by decide +kernel⟩, List.mem_of_getElem? (i := 1231) (by decide +kernel), List.mem_of_getElem? (i := 1377) (by decide +kernel), List.mem_of_getElem? (i := 1378) (by decide +kernel)⟩
theorem lw_p50 : lw_okq (⟨"VersionSearchModel", "see", "()I"⟩, 37) := ⟨⟨by decide +kernel, by decide +kernel⟩, List.mem_of_getElem? (i := 1231) (by decide +kernel), List.mem_of_getElem? (i := 1381) (by decide +kernel), List.mem_of_getElem? (i := 1382) (by decide +kernel)⟩
theorem lw_p51 : lw_okq (⟨"VersionSearchModel", "allLines", "(I)Z"⟩, 37) := ⟨⟨by decide +kernel, by decide +kernel⟩, List.mem_of_getElem? (i := 1231) (by decide +kernel), List.mem_of_getElem? (i := 1385) (by decide +kernel), List.mem_of_getElem? (i := 1386) (by decide +kernel)⟩
theorem lw_p52 : lw_okq (⟨"VersionSearchModel", "archiveLine", "(JI)Z"⟩, 37) := ⟨⟨by decide +kernel, by decide +kernel⟩, List.mem_of_getElem? (i := 1231) (by decide +kernel), List.mem_of_getElem? (i := 1389) (by decide +kernel), List.mem_of_getElem? (i := 1390) (by decide +kernel)⟩
theorem lw_p53 : lw_okq (⟨"VersionSearchModel", "changeBy", "(J)I"⟩, 37) := ⟨⟨by decide +kernel, by decide +kernel⟩, List.mem_of_getElem? (i := 1231) (by decide +kernel), List.mem_of_getElem? (i := 1393) (by decide +kernel), List.mem_of_getElem? (i := 1394) (by decide +kernel)⟩
theorem lw_p54 : lw_okq (⟨"VersionSearchModel", "docLine", "(I)Z"⟩, 37) := ⟨⟨by decide +kernel, by decide +kernel⟩, List.mem_of_getElem? (i := 1231) (by decide +kernel), List.mem_of_getElem? (i := 1402) (by decide +kernel), List.mem_of_getElem? (i := 1403) (by decide +kernel)⟩
theorem lw_p55 : lw_okq (⟨"VersionSearchModel", "addsFault", "(II)V"⟩, 37) := ⟨⟨by decide +kernel, by decide +kernel⟩, List.mem_of_getElem? (i := 1231) (by decide +kernel), List.mem_of_getElem? (i := 1406) (by decide +kernel), List.mem_of_getElem? (i := 1407) (by decide +kernel)⟩
theorem lw_p56 : lw_okq (⟨"VersionSearchModel", "takeWords", "(I)V"⟩, 37) := ⟨⟨by decide +kernel, by decide +kernel⟩, List.mem_of_getElem? (i := 1231) (by decide +kernel), List.mem_of_getElem? (i := 1410) (by decide +kernel), List.mem_of_getElem? (i := 1411) (by decide +kernel)⟩
theorem lw_p57 : lw_okq (⟨"VersionSearchModel", "takeWord", "()Z"⟩, 37) := ⟨⟨by decide +kernel, by decide +kernel⟩, List.mem_of_getElem? (i := 1231) (by decide +kernel), List.mem_of_getElem? (i := 1414) (by decide +kernel), List.mem_of_getElem? (i := 1415) (by decide +kernel)⟩
theorem lw_p58 : lw_okq (⟨"VersionSearchModel", "fails", "()Z"⟩, 37) := ⟨⟨by decide +kernel, by decide +kernel⟩, List.mem_of_getElem? (i := 1231) (by decide +kernel), List.mem_of_getElem? (i := 1418) (by decide +kernel), List.mem_of_getElem? (i := 1419) (by decide +kernel)⟩
theorem lw_p59 : lw_okq (⟨"VersionSearchModel", "beginVersion", "(I)V"⟩, 37) := ⟨⟨by decide +kernel, by decide +kernel⟩, List.mem_of_getElem? (i := 1231) (by decide +kernel), List.mem_of_getElem? (i := 1426) (by decide +kernel), List.mem_of_getElem? (i := 1427) (by decide +kernel)⟩
theorem lw_p60 : lw_okq (⟨"VersionSearchModel", "latest", "(I)I"⟩, 37) := ⟨⟨by decide +kernel, by decide +kernel⟩, List.mem_of_getElem? (i := 1231) (by decide +kernel), List.mem_of_getElem? (i := 1430) (by decide +kernel), List.mem_of_getElem? (i := 1431) (by decide +kernel)⟩
theorem lw_p61 : lw_okq (⟨"VersionSearchModel", "newToken", "(II)I"⟩, 37) := ⟨⟨by decide +kernel, by decide +kernel⟩, List.mem_of_getElem? (i := 1231) (by decide +kernel), List.mem_of_getElem? (i := 1437) (by decide +kernel), List.mem_of_getElem? (i := 1438) (by decide +kernel)⟩
theorem lw_p62 : lw_okq (⟨"VersionSearchModel", "addWord", "(II)V"⟩, 37) := ⟨⟨by decide +kernel, by decide +kernel⟩, List.mem_of_getElem? (i := 1231) (by decide +kernel), List.mem_of_getElem? (i := 1444) (by decide +kernel), List.mem_of_getElem? (i := 1445) (by decide +kernel)⟩
theorem lw_p63 : lw_okq (⟨"VersionSearchModel", "changeLine", "(II)Z"⟩, 37) := ⟨⟨by decide +kernel, by decide +kernel⟩, List.mem_of_getElem? (i := 1231) (by decide +kernel), List.mem_of_getElem? (i := 1448) (by decide +kernel), List.mem_of_getElem? (i := 1449) (by decide +kernel)⟩
def lw_privs_4 : List (MethodName × Nat) := [(⟨"VersionSearchModel", "readText", "(I)Z"⟩, 37), (⟨"VersionSearchModel", "token", "()V"⟩, 37), (⟨"VersionSearchModel", "see", "()I"⟩, 37), (⟨"VersionSearchModel", "allLines", "(I)Z"⟩, 37), (⟨"VersionSearchModel", "archiveLine", "(JI)Z"⟩, 37), (⟨"VersionSearchModel", "changeBy", "(J)I"⟩, 37), (⟨"VersionSearchModel", "docLine", "(I)Z"⟩, 37), (⟨"VersionSearchModel", "addsFault", "(II)V"⟩, 37), (⟨"VersionSearchModel", "takeWords", "(I)V"⟩, 37), (⟨"VersionSearchModel", "takeWord", "()Z"⟩, 37), (⟨"VersionSearchModel", "fails", "()Z"⟩, 37), (⟨"VersionSearchModel", "beginVersion", "(I)V"⟩, 37), (⟨"VersionSearchModel", "latest", "(I)I"⟩, 37), (⟨"VersionSearchModel", "newToken", "(II)I"⟩, 37), (⟨"VersionSearchModel", "addWord", "(II)V"⟩, 37), (⟨"VersionSearchModel", "changeLine", "(II)Z"⟩, 37)]
theorem lw_r4 : ∀ q ∈ lw_privs_4, lw_okq q := List.forall_mem_cons.mpr ⟨lw_p48, List.forall_mem_cons.mpr ⟨lw_p49, List.forall_mem_cons.mpr ⟨lw_p50, List.forall_mem_cons.mpr ⟨lw_p51, List.forall_mem_cons.mpr ⟨lw_p52, List.forall_mem_cons.mpr ⟨lw_p53, List.forall_mem_cons.mpr ⟨lw_p54, List.forall_mem_cons.mpr ⟨lw_p55, List.forall_mem_cons.mpr ⟨lw_p56, List.forall_mem_cons.mpr ⟨lw_p57, List.forall_mem_cons.mpr ⟨lw_p58, List.forall_mem_cons.mpr ⟨lw_p59, List.forall_mem_cons.mpr ⟨lw_p60, List.forall_mem_cons.mpr ⟨lw_p61, List.forall_mem_cons.mpr ⟨lw_p62, List.forall_mem_cons.mpr ⟨lw_p63, fun _ h => absurd h List.not_mem_nil⟩⟩⟩⟩⟩⟩⟩⟩⟩⟩⟩⟩⟩⟩⟩⟩
theorem lw_p64 : lw_okq (⟨"VersionSearchModel", "readChange", "(I)Z"⟩, 37) := ⟨⟨by decide +kernel, by decide +kernel⟩, List.mem_of_getElem? (i := 1231) (by decide +kernel), List.mem_of_getElem? (i := 1452) (by decide +kernel), List.mem_of_getElem? (i := 1453) (by decide +kernel)⟩
theorem lw_p65 : lw_okq (⟨"VersionSearchModel", "take", "(III)Z"⟩, 37) := ⟨⟨by decide +kernel, by decide +kernel⟩, List.mem_of_getElem? (i := 1231) (by decide +kernel), List.mem_of_getElem? (i := 1456) (by decide +kernel), List.mem_of_getElem? (i := 1457) (by decide +kernel)⟩
theorem lw_p66 : lw_okq (⟨"VersionSearchModel", "readPut", "()Z"⟩, 37) := ⟨⟨by decide +kernel, by decide +kernel⟩, List.mem_of_getElem? (i := 1231) (by decide +kernel), List.mem_of_getElem? (i := 1460) (by decide +kernel), List.mem_of_getElem? (i := 1461) (by decide +kernel)⟩
theorem lw_p67 : lw_okq (⟨"VersionSearchModel", "isThere", "(I)Z"⟩, 37) := ⟨⟨by decide +kernel, by decide +kernel⟩, List.mem_of_getElem? (i := 1231) (by decide +kernel), List.mem_of_getElem? (i := 1464) (by decide +kernel), List.mem_of_getElem? (i := 1465) (by decide +kernel)⟩
theorem lw_p68 : lw_okq (⟨"VersionSearchModel", "makeVersion", "(I)V"⟩, 37) := ⟨⟨by decide +kernel, by decide +kernel⟩, List.mem_of_getElem? (i := 1231) (by decide +kernel), List.mem_of_getElem? (i := 1468) (by decide +kernel), List.mem_of_getElem? (i := 1469) (by decide +kernel)⟩
theorem lw_p69 : lw_okq (⟨"VersionSearchModel", "moves", "(III)V"⟩, 37) := ⟨⟨by decide +kernel, by decide +kernel⟩, List.mem_of_getElem? (i := 1231) (by decide +kernel), List.mem_of_getElem? (i := 1472) (by decide +kernel), List.mem_of_getElem? (i := 1473) (by decide +kernel)⟩
theorem lw_p70 : lw_okq (⟨"VersionSearchModel", "askingLine", "(JI)Z"⟩, 37) := ⟨⟨by decide +kernel, by decide +kernel⟩, List.mem_of_getElem? (i := 1231) (by decide +kernel), List.mem_of_getElem? (i := 1476) (by decide +kernel), List.mem_of_getElem? (i := 1477) (by decide +kernel)⟩
theorem lw_p71 : lw_okq (⟨"VersionSearchModel", "askingBy", "(J)I"⟩, 37) := ⟨⟨by decide +kernel, by decide +kernel⟩, List.mem_of_getElem? (i := 1231) (by decide +kernel), List.mem_of_getElem? (i := 1480) (by decide +kernel), List.mem_of_getElem? (i := 1481) (by decide +kernel)⟩
theorem lw_p72 : lw_okq (⟨"VersionSearchModel", "readAsking", "(II)Z"⟩, 37) := ⟨⟨by decide +kernel, by decide +kernel⟩, List.mem_of_getElem? (i := 1231) (by decide +kernel), List.mem_of_getElem? (i := 1492) (by decide +kernel), List.mem_of_getElem? (i := 1493) (by decide +kernel)⟩
theorem lw_p73 : lw_okq (⟨"VersionSearchModel", "huntLine", "(JI)Z"⟩, 37) := ⟨⟨by decide +kernel, by decide +kernel⟩, List.mem_of_getElem? (i := 1231) (by decide +kernel), List.mem_of_getElem? (i := 1496) (by decide +kernel), List.mem_of_getElem? (i := 1497) (by decide +kernel)⟩
theorem lw_p74 : lw_okq (⟨"VersionSearchModel", "store", "([III)V"⟩, 37) := ⟨⟨by decide +kernel, by decide +kernel⟩, List.mem_of_getElem? (i := 1231) (by decide +kernel), List.mem_of_getElem? (i := 1502) (by decide +kernel), List.mem_of_getElem? (i := 1503) (by decide +kernel)⟩
theorem lw_p75 : lw_okq (⟨"VersionSearchModel", "hand", "(I)Z"⟩, 37) := ⟨⟨by decide +kernel, by decide +kernel⟩, List.mem_of_getElem? (i := 1231) (by decide +kernel), List.mem_of_getElem? (i := 1514) (by decide +kernel), List.mem_of_getElem? (i := 1515) (by decide +kernel)⟩
theorem lw_p76 : lw_okq (⟨"VersionSearchModel", "ofDoc", "(II)I"⟩, 37) := ⟨⟨by decide +kernel, by decide +kernel⟩, List.mem_of_getElem? (i := 1231) (by decide +kernel), List.mem_of_getElem? (i := 1518) (by decide +kernel), List.mem_of_getElem? (i := 1519) (by decide +kernel)⟩
theorem lw_p77 : lw_okq (⟨"VersionSearchModel", "isDoc", "(I)Z"⟩, 37) := ⟨⟨by decide +kernel, by decide +kernel⟩, List.mem_of_getElem? (i := 1231) (by decide +kernel), List.mem_of_getElem? (i := 1522) (by decide +kernel), List.mem_of_getElem? (i := 1523) (by decide +kernel)⟩
theorem lw_p78 : lw_okq (⟨"VersionSearchModel", "versions", "(I)I"⟩, 37) := ⟨⟨by decide +kernel, by decide +kernel⟩, List.mem_of_getElem? (i := 1231) (by decide +kernel), List.mem_of_getElem? (i := 1526) (by decide +kernel), List.mem_of_getElem? (i := 1527) (by decide +kernel)⟩
theorem lw_p79 : lw_okq (⟨"VersionSearchModel", "passages", "(IZ)I"⟩, 37) := ⟨⟨by decide +kernel, by decide +kernel⟩, List.mem_of_getElem? (i := 1231) (by decide +kernel), List.mem_of_getElem? (i := 1530) (by decide +kernel), List.mem_of_getElem? (i := 1531) (by decide +kernel)⟩
def lw_privs_5 : List (MethodName × Nat) := [(⟨"VersionSearchModel", "readChange", "(I)Z"⟩, 37), (⟨"VersionSearchModel", "take", "(III)Z"⟩, 37), (⟨"VersionSearchModel", "readPut", "()Z"⟩, 37), (⟨"VersionSearchModel", "isThere", "(I)Z"⟩, 37), (⟨"VersionSearchModel", "makeVersion", "(I)V"⟩, 37), (⟨"VersionSearchModel", "moves", "(III)V"⟩, 37), (⟨"VersionSearchModel", "askingLine", "(JI)Z"⟩, 37), (⟨"VersionSearchModel", "askingBy", "(J)I"⟩, 37), (⟨"VersionSearchModel", "readAsking", "(II)Z"⟩, 37), (⟨"VersionSearchModel", "huntLine", "(JI)Z"⟩, 37), (⟨"VersionSearchModel", "store", "([III)V"⟩, 37), (⟨"VersionSearchModel", "hand", "(I)Z"⟩, 37), (⟨"VersionSearchModel", "ofDoc", "(II)I"⟩, 37), (⟨"VersionSearchModel", "isDoc", "(I)Z"⟩, 37), (⟨"VersionSearchModel", "versions", "(I)I"⟩, 37), (⟨"VersionSearchModel", "passages", "(IZ)I"⟩, 37)]
theorem lw_r5 : ∀ q ∈ lw_privs_5, lw_okq q := List.forall_mem_cons.mpr ⟨lw_p64, List.forall_mem_cons.mpr ⟨lw_p65, List.forall_mem_cons.mpr ⟨lw_p66, List.forall_mem_cons.mpr ⟨lw_p67, List.forall_mem_cons.mpr ⟨lw_p68, List.forall_mem_cons.mpr ⟨lw_p69, List.forall_mem_cons.mpr ⟨lw_p70, List.forall_mem_cons.mpr ⟨lw_p71, List.forall_mem_cons.mpr ⟨lw_p72, List.forall_mem_cons.mpr ⟨lw_p73, List.forall_mem_cons.mpr ⟨lw_p74, List.forall_mem_cons.mpr ⟨lw_p75, List.forall_mem_cons.mpr ⟨lw_p76, List.forall_mem_cons.mpr ⟨lw_p77, List.forall_mem_cons.mpr ⟨lw_p78, List.forall_mem_cons.mpr ⟨lw_p79, fun _ h => absurd h List.not_mem_nil⟩⟩⟩⟩⟩⟩⟩⟩⟩⟩⟩⟩⟩⟩⟩⟩
theorem lw_p80 : lw_okq (⟨"VersionSearchModel", "whereIs", "(I)I"⟩, 37) := ⟨⟨by decide +kernel, by decide +kernel⟩, List.mem_of_getElem? (i := 1231) (by decide +kernel), List.mem_of_getElem? (i := 1534) (by decide +kernel), List.mem_of_getElem? (i := 1535) (by decide +kernel)⟩
theorem lw_p81 : lw_okq (⟨"VersionSearchModel", "placeOf", "(III)I"⟩, 37) := ⟨⟨by decide +kernel, by decide +kernel⟩, List.mem_of_getElem? (i := 1231) (by decide +kernel), List.mem_of_getElem? (i := 1538) (by decide +kernel), List.mem_of_getElem? (i := 1539) (by decide +kernel)⟩
theorem lw_p82 : lw_okq (⟨"VersionSearchModel", "longOf", "(II)I"⟩, 37) := ⟨⟨by decide +kernel, by decide +kernel⟩, List.mem_of_getElem? (i := 1231) (by decide +kernel), List.mem_of_getElem? (i := 1542) (by decide +kernel), List.mem_of_getElem? (i := 1543) (by decide +kernel)⟩
theorem lw_p83 : lw_okq (⟨"VersionSearchModel", "tokenAt", "(III)I"⟩, 37) := ⟨⟨by decide +kernel, by decide +kernel⟩, List.mem_of_getElem? (i := 1231) (by decide +kernel), List.mem_of_getElem? (i := 1546) (by decide +kernel), List.mem_of_getElem? (i := 1547) (by decide +kernel)⟩
theorem lw_p84 : lw_okq (⟨"VersionSearchModel", "hasAhead", "(III)Z"⟩, 37) := ⟨⟨by decide +kernel, by decide +kernel⟩, List.mem_of_getElem? (i := 1231) (by decide +kernel), List.mem_of_getElem? (i := 1550) (by decide +kernel), List.mem_of_getElem? (i := 1551) (by decide +kernel)⟩
theorem lw_p85 : lw_okq (⟨"VersionSearchModel", "behindOf", "(III)I"⟩, 37) := ⟨⟨by decide +kernel, by decide +kernel⟩, List.mem_of_getElem? (i := 1231) (by decide +kernel), List.mem_of_getElem? (i := 1554) (by decide +kernel), List.mem_of_getElem? (i := 1555) (by decide +kernel)⟩
theorem lw_p86 : lw_okq (⟨"VersionSearchModel", "keptIn", "(I)I"⟩, 37) := ⟨⟨by decide +kernel, by decide +kernel⟩, List.mem_of_getElem? (i := 1231) (by decide +kernel), List.mem_of_getElem? (i := 1564) (by decide +kernel), List.mem_of_getElem? (i := 1565) (by decide +kernel)⟩
theorem lw_p87 : lw_okq (⟨"VersionSearchModel", "returns", "(I)I"⟩, 37) := ⟨⟨by decide +kernel, by decide +kernel⟩, List.mem_of_getElem? (i := 1231) (by decide +kernel), List.mem_of_getElem? (i := 1571) (by decide +kernel), List.mem_of_getElem? (i := 1572) (by decide +kernel)⟩
theorem lw_p88 : lw_okq (⟨"VersionSearchModel", "areAlike", "(IIII)Z"⟩, 37) := ⟨⟨by decide +kernel, by decide +kernel⟩, List.mem_of_getElem? (i := 1231) (by decide +kernel), List.mem_of_getElem? (i := 1575) (by decide +kernel), List.mem_of_getElem? (i := 1576) (by decide +kernel)⟩
theorem lw_p89 : lw_okq (⟨"VersionSearchModel", "wordAt", "(III)I"⟩, 37) := ⟨⟨by decide +kernel, by decide +kernel⟩, List.mem_of_getElem? (i := 1231) (by decide +kernel), List.mem_of_getElem? (i := 1579) (by decide +kernel), List.mem_of_getElem? (i := 1580) (by decide +kernel)⟩
theorem lw_p90 : lw_okq (⟨"VersionSearchModel", "wordOf", "(I)I"⟩, 37) := ⟨⟨by decide +kernel, by decide +kernel⟩, List.mem_of_getElem? (i := 1231) (by decide +kernel), List.mem_of_getElem? (i := 1583) (by decide +kernel), List.mem_of_getElem? (i := 1584) (by decide +kernel)⟩
theorem lw_p91 : lw_okq (⟨"VersionSearchModel", "versionsAll", "()I"⟩, 37) := ⟨⟨by decide +kernel, by decide +kernel⟩, List.mem_of_getElem? (i := 1231) (by decide +kernel), List.mem_of_getElem? (i := 1587) (by decide +kernel), List.mem_of_getElem? (i := 1588) (by decide +kernel)⟩
theorem lw_p92 : lw_okq (⟨"VersionSearchModel", "sizeAll", "()I"⟩, 37) := ⟨⟨by decide +kernel, by decide +kernel⟩, List.mem_of_getElem? (i := 1231) (by decide +kernel), List.mem_of_getElem? (i := 1591) (by decide +kernel), List.mem_of_getElem? (i := 1592) (by decide +kernel)⟩
theorem lw_p93 : lw_okq (⟨"VersionSearchModel", "postings", "()I"⟩, 37) := ⟨⟨by decide +kernel, by decide +kernel⟩, List.mem_of_getElem? (i := 1231) (by decide +kernel), List.mem_of_getElem? (i := 1595) (by decide +kernel), List.mem_of_getElem? (i := 1596) (by decide +kernel)⟩
theorem lw_p94 : lw_okq (⟨"VersionSearchModel", "longest", "()I"⟩, 37) := ⟨⟨by decide +kernel, by decide +kernel⟩, List.mem_of_getElem? (i := 1231) (by decide +kernel), List.mem_of_getElem? (i := 1602) (by decide +kernel), List.mem_of_getElem? (i := 1603) (by decide +kernel)⟩
theorem lw_p95 : lw_okq (⟨"VersionSearchModel", "twins", "()I"⟩, 37) := ⟨⟨by decide +kernel, by decide +kernel⟩, List.mem_of_getElem? (i := 1231) (by decide +kernel), List.mem_of_getElem? (i := 1606) (by decide +kernel), List.mem_of_getElem? (i := 1607) (by decide +kernel)⟩
def lw_privs_6 : List (MethodName × Nat) := [(⟨"VersionSearchModel", "whereIs", "(I)I"⟩, 37), (⟨"VersionSearchModel", "placeOf", "(III)I"⟩, 37), (⟨"VersionSearchModel", "longOf", "(II)I"⟩, 37), (⟨"VersionSearchModel", "tokenAt", "(III)I"⟩, 37), (⟨"VersionSearchModel", "hasAhead", "(III)Z"⟩, 37), (⟨"VersionSearchModel", "behindOf", "(III)I"⟩, 37), (⟨"VersionSearchModel", "keptIn", "(I)I"⟩, 37), (⟨"VersionSearchModel", "returns", "(I)I"⟩, 37), (⟨"VersionSearchModel", "areAlike", "(IIII)Z"⟩, 37), (⟨"VersionSearchModel", "wordAt", "(III)I"⟩, 37), (⟨"VersionSearchModel", "wordOf", "(I)I"⟩, 37), (⟨"VersionSearchModel", "versionsAll", "()I"⟩, 37), (⟨"VersionSearchModel", "sizeAll", "()I"⟩, 37), (⟨"VersionSearchModel", "postings", "()I"⟩, 37), (⟨"VersionSearchModel", "longest", "()I"⟩, 37), (⟨"VersionSearchModel", "twins", "()I"⟩, 37)]
theorem lw_r6 : ∀ q ∈ lw_privs_6, lw_okq q := List.forall_mem_cons.mpr ⟨lw_p80, List.forall_mem_cons.mpr ⟨lw_p81, List.forall_mem_cons.mpr ⟨lw_p82, List.forall_mem_cons.mpr ⟨lw_p83, List.forall_mem_cons.mpr ⟨lw_p84, List.forall_mem_cons.mpr ⟨lw_p85, List.forall_mem_cons.mpr ⟨lw_p86, List.forall_mem_cons.mpr ⟨lw_p87, List.forall_mem_cons.mpr ⟨lw_p88, List.forall_mem_cons.mpr ⟨lw_p89, List.forall_mem_cons.mpr ⟨lw_p90, List.forall_mem_cons.mpr ⟨lw_p91, List.forall_mem_cons.mpr ⟨lw_p92, List.forall_mem_cons.mpr ⟨lw_p93, List.forall_mem_cons.mpr ⟨lw_p94, List.forall_mem_cons.mpr ⟨lw_p95, fun _ h => absurd h List.not_mem_nil⟩⟩⟩⟩⟩⟩⟩⟩⟩⟩⟩⟩⟩⟩⟩⟩
theorem lw_p96 : lw_okq (⟨"VersionSearchModel", "isVersion", "(II)Z"⟩, 37) := ⟨⟨by decide +kernel, by decide +kernel⟩, List.mem_of_getElem? (i := 1231) (by decide +kernel), List.mem_of_getElem? (i := 1610) (by decide +kernel), List.mem_of_getElem? (i := 1611) (by decide +kernel)⟩
theorem lw_p97 : lw_okq (⟨"VersionSearchModel", "layWords", "()V"⟩, 37) := ⟨⟨by decide +kernel, by decide +kernel⟩, List.mem_of_getElem? (i := 1231) (by decide +kernel), List.mem_of_getElem? (i := 1614) (by decide +kernel), List.mem_of_getElem? (i := 1615) (by decide +kernel)⟩
theorem lw_p98 : lw_okq (⟨"VersionSearchModel", "fresh", "(II)I"⟩, 37) := ⟨⟨by decide +kernel, by decide +kernel⟩, List.mem_of_getElem? (i := 1231) (by decide +kernel), List.mem_of_getElem? (i := 1625) (by decide +kernel), List.mem_of_getElem? (i := 1626) (by decide +kernel)⟩
theorem lw_p99 : lw_okq (⟨"VersionSearchModel", "lost", "(II)I"⟩, 37) := ⟨⟨by decide +kernel, by decide +kernel⟩, List.mem_of_getElem? (i := 1231) (by decide +kernel), List.mem_of_getElem? (i := 1629) (by decide +kernel), List.mem_of_getElem? (i := 1630) (by decide +kernel)⟩
theorem lw_p100 : lw_okq (⟨"VersionSearchModel", "turned", "(II)I"⟩, 37) := ⟨⟨by decide +kernel, by decide +kernel⟩, List.mem_of_getElem? (i := 1231) (by decide +kernel), List.mem_of_getElem? (i := 1633) (by decide +kernel), List.mem_of_getElem? (i := 1634) (by decide +kernel)⟩
theorem lw_p101 : lw_okq (⟨"VersionSearchModel", "oldest", "(II)I"⟩, 37) := ⟨⟨by decide +kernel, by decide +kernel⟩, List.mem_of_getElem? (i := 1231) (by decide +kernel), List.mem_of_getElem? (i := 1637) (by decide +kernel), List.mem_of_getElem? (i := 1638) (by decide +kernel)⟩
theorem lw_p102 : lw_okq (⟨"VersionSearchModel", "ofWord", "(II)I"⟩, 37) := ⟨⟨by decide +kernel, by decide +kernel⟩, List.mem_of_getElem? (i := 1231) (by decide +kernel), List.mem_of_getElem? (i := 1655) (by decide +kernel), List.mem_of_getElem? (i := 1656) (by decide +kernel)⟩
theorem lw_p103 : lw_okq (⟨"VersionSearchModel", "timesIn", "(III)I"⟩, 37) := ⟨⟨by decide +kernel, by decide +kernel⟩, List.mem_of_getElem? (i := 1231) (by decide +kernel), List.mem_of_getElem? (i := 1660) (by decide +kernel), List.mem_of_getElem? (i := 1661) (by decide +kernel)⟩
theorem lw_p104 : lw_okq (⟨"VersionSearchModel", "hasAsking", "(I)Z"⟩, 37) := ⟨⟨by decide +kernel, by decide +kernel⟩, List.mem_of_getElem? (i := 1231) (by decide +kernel), List.mem_of_getElem? (i := 1680) (by decide +kernel), List.mem_of_getElem? (i := 1681) (by decide +kernel)⟩
theorem lw_p105 : lw_okq (⟨"VersionSearchModel", "askedMany", "()I"⟩, 37) := ⟨⟨by decide +kernel, by decide +kernel⟩, List.mem_of_getElem? (i := 1231) (by decide +kernel), List.mem_of_getElem? (i := 1684) (by decide +kernel), List.mem_of_getElem? (i := 1685) (by decide +kernel)⟩
theorem lw_p106 : lw_okq (⟨"VersionSearchModel", "wordsOf", "(I)I"⟩, 37) := ⟨⟨by decide +kernel, by decide +kernel⟩, List.mem_of_getElem? (i := 1231) (by decide +kernel), List.mem_of_getElem? (i := 1688) (by decide +kernel), List.mem_of_getElem? (i := 1689) (by decide +kernel)⟩
theorem lw_p107 : lw_okq (⟨"VersionSearchModel", "ofAsking", "(II)I"⟩, 37) := ⟨⟨by decide +kernel, by decide +kernel⟩, List.mem_of_getElem? (i := 1231) (by decide +kernel), List.mem_of_getElem? (i := 1692) (by decide +kernel), List.mem_of_getElem? (i := 1693) (by decide +kernel)⟩
theorem lw_p108 : lw_okq (⟨"VersionSearchModel", "layHeld", "(II)Z"⟩, 37) := ⟨⟨by decide +kernel, by decide +kernel⟩, List.mem_of_getElem? (i := 1231) (by decide +kernel), List.mem_of_getElem? (i := 1700) (by decide +kernel), List.mem_of_getElem? (i := 1701) (by decide +kernel)⟩
theorem lw_p109 : lw_okq (⟨"VersionSearchModel", "holdsBy", "(III)Z"⟩, 37) := ⟨⟨by decide +kernel, by decide +kernel⟩, List.mem_of_getElem? (i := 1231) (by decide +kernel), List.mem_of_getElem? (i := 1704) (by decide +kernel), List.mem_of_getElem? (i := 1705) (by decide +kernel)⟩
theorem lw_p110 : lw_okq (⟨"VersionSearchModel", "timesOf", "(III)I"⟩, 37) := ⟨⟨by decide +kernel, by decide +kernel⟩, List.mem_of_getElem? (i := 1231) (by decide +kernel), List.mem_of_getElem? (i := 1708) (by decide +kernel), List.mem_of_getElem? (i := 1709) (by decide +kernel)⟩
theorem lw_p111 : lw_okq (⟨"VersionSearchModel", "beginsAt", "(IIII)Z"⟩, 37) := ⟨⟨by decide +kernel, by decide +kernel⟩, List.mem_of_getElem? (i := 1231) (by decide +kernel), List.mem_of_getElem? (i := 1712) (by decide +kernel), List.mem_of_getElem? (i := 1713) (by decide +kernel)⟩
def lw_privs_7 : List (MethodName × Nat) := [(⟨"VersionSearchModel", "isVersion", "(II)Z"⟩, 37), (⟨"VersionSearchModel", "layWords", "()V"⟩, 37), (⟨"VersionSearchModel", "fresh", "(II)I"⟩, 37), (⟨"VersionSearchModel", "lost", "(II)I"⟩, 37), (⟨"VersionSearchModel", "turned", "(II)I"⟩, 37), (⟨"VersionSearchModel", "oldest", "(II)I"⟩, 37), (⟨"VersionSearchModel", "ofWord", "(II)I"⟩, 37), (⟨"VersionSearchModel", "timesIn", "(III)I"⟩, 37), (⟨"VersionSearchModel", "hasAsking", "(I)Z"⟩, 37), (⟨"VersionSearchModel", "askedMany", "()I"⟩, 37), (⟨"VersionSearchModel", "wordsOf", "(I)I"⟩, 37), (⟨"VersionSearchModel", "ofAsking", "(II)I"⟩, 37), (⟨"VersionSearchModel", "layHeld", "(II)Z"⟩, 37), (⟨"VersionSearchModel", "holdsBy", "(III)Z"⟩, 37), (⟨"VersionSearchModel", "timesOf", "(III)I"⟩, 37), (⟨"VersionSearchModel", "beginsAt", "(IIII)Z"⟩, 37)]
theorem lw_r7 : ∀ q ∈ lw_privs_7, lw_okq q := List.forall_mem_cons.mpr ⟨lw_p96, List.forall_mem_cons.mpr ⟨lw_p97, List.forall_mem_cons.mpr ⟨lw_p98, List.forall_mem_cons.mpr ⟨lw_p99, List.forall_mem_cons.mpr ⟨lw_p100, List.forall_mem_cons.mpr ⟨lw_p101, List.forall_mem_cons.mpr ⟨lw_p102, List.forall_mem_cons.mpr ⟨lw_p103, List.forall_mem_cons.mpr ⟨lw_p104, List.forall_mem_cons.mpr ⟨lw_p105, List.forall_mem_cons.mpr ⟨lw_p106, List.forall_mem_cons.mpr ⟨lw_p107, List.forall_mem_cons.mpr ⟨lw_p108, List.forall_mem_cons.mpr ⟨lw_p109, List.forall_mem_cons.mpr ⟨lw_p110, List.forall_mem_cons.mpr ⟨lw_p111, fun _ h => absurd h List.not_mem_nil⟩⟩⟩⟩⟩⟩⟩⟩⟩⟩⟩⟩⟩⟩⟩⟩
theorem lw_p112 : lw_okq (⟨"VersionSearchModel", "areNear", "(III)Z"⟩, 37) := ⟨⟨by decide +kernel, by decide +kernel⟩, List.mem_of_getElem? (i := 1231) (by decide +kernel), List.mem_of_getElem? (i := 1716) (by decide +kernel), List.mem_of_getElem? (i := 1717) (by decide +kernel)⟩
theorem lw_p113 : lw_okq (⟨"VersionSearchModel", "isAsking", "(I)Z"⟩, 37) := ⟨⟨by decide +kernel, by decide +kernel⟩, List.mem_of_getElem? (i := 1231) (by decide +kernel), List.mem_of_getElem? (i := 1720) (by decide +kernel), List.mem_of_getElem? (i := 1721) (by decide +kernel)⟩
theorem lw_p114 : lw_okq (⟨"VersionSearchModel", "asOf", "(II)I"⟩, 37) := ⟨⟨by decide +kernel, by decide +kernel⟩, List.mem_of_getElem? (i := 1231) (by decide +kernel), List.mem_of_getElem? (i := 1736) (by decide +kernel), List.mem_of_getElem? (i := 1737) (by decide +kernel)⟩
theorem lw_p115 : lw_okq (⟨"VersionSearchModel", "changes", "(II)I"⟩, 37) := ⟨⟨by decide +kernel, by decide +kernel⟩, List.mem_of_getElem? (i := 1231) (by decide +kernel), List.mem_of_getElem? (i := 1740) (by decide +kernel), List.mem_of_getElem? (i := 1741) (by decide +kernel)⟩
theorem lw_p116 : lw_okq (⟨"VersionSearchModel", "rank", "(II)I"⟩, 37) := ⟨⟨by decide +kernel, by decide +kernel⟩, List.mem_of_getElem? (i := 1231) (by decide +kernel), List.mem_of_getElem? (i := 1744) (by decide +kernel), List.mem_of_getElem? (i := 1745) (by decide +kernel)⟩
theorem lw_p117 : lw_okq (⟨"VersionSearchModel", "rankOf", "(II)I"⟩, 37) := ⟨⟨by decide +kernel, by decide +kernel⟩, List.mem_of_getElem? (i := 1231) (by decide +kernel), List.mem_of_getElem? (i := 1748) (by decide +kernel), List.mem_of_getElem? (i := 1749) (by decide +kernel)⟩
theorem lw_p118 : lw_okq (⟨"VersionSearchModel", "docsBy", "(IZ)I"⟩, 37) := ⟨⟨by decide +kernel, by decide +kernel⟩, List.mem_of_getElem? (i := 1231) (by decide +kernel), List.mem_of_getElem? (i := 1752) (by decide +kernel), List.mem_of_getElem? (i := 1753) (by decide +kernel)⟩
theorem lw_p119 : lw_okq (⟨"VersionSearchModel", "versionsBy", "(I)I"⟩, 37) := ⟨⟨by decide +kernel, by decide +kernel⟩, List.mem_of_getElem? (i := 1231) (by decide +kernel), List.mem_of_getElem? (i := 1756) (by decide +kernel), List.mem_of_getElem? (i := 1757) (by decide +kernel)⟩
theorem lw_p120 : lw_okq (⟨"VersionSearchModel", "bestAsking", "()I"⟩, 37) := ⟨⟨by decide +kernel, by decide +kernel⟩, List.mem_of_getElem? (i := 1231) (by decide +kernel), List.mem_of_getElem? (i := 1764) (by decide +kernel), List.mem_of_getElem? (i := 1765) (by decide +kernel)⟩
theorem lw_p121 : lw_okq (⟨"VersionSearchModel", "samePairs", "()I"⟩, 37) := ⟨⟨by decide +kernel, by decide +kernel⟩, List.mem_of_getElem? (i := 1231) (by decide +kernel), List.mem_of_getElem? (i := 1768) (by decide +kernel), List.mem_of_getElem? (i := 1769) (by decide +kernel)⟩
theorem lw_p122 : lw_okq (⟨"VersionSearchModel", "isWithin", "(II)Z"⟩, 37) := ⟨⟨by decide +kernel, by decide +kernel⟩, List.mem_of_getElem? (i := 1231) (by decide +kernel), List.mem_of_getElem? (i := 1772) (by decide +kernel), List.mem_of_getElem? (i := 1773) (by decide +kernel)⟩
theorem lw_p123 : lw_okq (⟨"VersionSearchModel", "hasHunt", "(I)Z"⟩, 37) := ⟨⟨by decide +kernel, by decide +kernel⟩, List.mem_of_getElem? (i := 1231) (by decide +kernel), List.mem_of_getElem? (i := 1784) (by decide +kernel), List.mem_of_getElem? (i := 1785) (by decide +kernel)⟩
theorem lw_p124 : lw_okq (⟨"VersionSearchModel", "facts", "()I"⟩, 37) := ⟨⟨by decide +kernel, by decide +kernel⟩, List.mem_of_getElem? (i := 1231) (by decide +kernel), List.mem_of_getElem? (i := 1788) (by decide +kernel), List.mem_of_getElem? (i := 1789) (by decide +kernel)⟩
theorem lw_p125 : lw_okq (⟨"VersionSearchModel", "factOf", "(II)I"⟩, 37) := ⟨⟨by decide +kernel, by decide +kernel⟩, List.mem_of_getElem? (i := 1231) (by decide +kernel), List.mem_of_getElem? (i := 1792) (by decide +kernel), List.mem_of_getElem? (i := 1793) (by decide +kernel)⟩
theorem lw_p126 : lw_okq (⟨"VersionSearchModel", "findWords", "(I)V"⟩, 37) := ⟨⟨by decide +kernel, by decide +kernel⟩, List.mem_of_getElem? (i := 1231) (by decide +kernel), List.mem_of_getElem? (i := 1800) (by decide +kernel), List.mem_of_getElem? (i := 1801) (by decide +kernel)⟩
theorem lw_p127 : lw_okq (⟨"VersionSearchModel", "isSo", "(I)Z"⟩, 37) := ⟨⟨by decide +kernel, by decide +kernel⟩, List.mem_of_getElem? (i := 1231) (by decide +kernel), List.mem_of_getElem? (i := 1804) (by decide +kernel), List.mem_of_getElem? (i := 1805) (by decide +kernel)⟩
def lw_privs_8 : List (MethodName × Nat) := [(⟨"VersionSearchModel", "areNear", "(III)Z"⟩, 37), (⟨"VersionSearchModel", "isAsking", "(I)Z"⟩, 37), (⟨"VersionSearchModel", "asOf", "(II)I"⟩, 37), (⟨"VersionSearchModel", "changes", "(II)I"⟩, 37), (⟨"VersionSearchModel", "rank", "(II)I"⟩, 37), (⟨"VersionSearchModel", "rankOf", "(II)I"⟩, 37), (⟨"VersionSearchModel", "docsBy", "(IZ)I"⟩, 37), (⟨"VersionSearchModel", "versionsBy", "(I)I"⟩, 37), (⟨"VersionSearchModel", "bestAsking", "()I"⟩, 37), (⟨"VersionSearchModel", "samePairs", "()I"⟩, 37), (⟨"VersionSearchModel", "isWithin", "(II)Z"⟩, 37), (⟨"VersionSearchModel", "hasHunt", "(I)Z"⟩, 37), (⟨"VersionSearchModel", "facts", "()I"⟩, 37), (⟨"VersionSearchModel", "factOf", "(II)I"⟩, 37), (⟨"VersionSearchModel", "findWords", "(I)V"⟩, 37), (⟨"VersionSearchModel", "isSo", "(I)Z"⟩, 37)]
theorem lw_r8 : ∀ q ∈ lw_privs_8, lw_okq q := List.forall_mem_cons.mpr ⟨lw_p112, List.forall_mem_cons.mpr ⟨lw_p113, List.forall_mem_cons.mpr ⟨lw_p114, List.forall_mem_cons.mpr ⟨lw_p115, List.forall_mem_cons.mpr ⟨lw_p116, List.forall_mem_cons.mpr ⟨lw_p117, List.forall_mem_cons.mpr ⟨lw_p118, List.forall_mem_cons.mpr ⟨lw_p119, List.forall_mem_cons.mpr ⟨lw_p120, List.forall_mem_cons.mpr ⟨lw_p121, List.forall_mem_cons.mpr ⟨lw_p122, List.forall_mem_cons.mpr ⟨lw_p123, List.forall_mem_cons.mpr ⟨lw_p124, List.forall_mem_cons.mpr ⟨lw_p125, List.forall_mem_cons.mpr ⟨lw_p126, List.forall_mem_cons.mpr ⟨lw_p127, fun _ h => absurd h List.not_mem_nil⟩⟩⟩⟩⟩⟩⟩⟩⟩⟩⟩⟩⟩⟩⟩⟩
theorem lw_p128 : lw_okq (⟨"VersionSearchModel", "noteFit", "(II)V"⟩, 37) := ⟨⟨by decide +kernel, by decide +kernel⟩, List.mem_of_getElem? (i := 1231) (by decide +kernel), List.mem_of_getElem? (i := 1808) (by decide +kernel), List.mem_of_getElem? (i := 1809) (by decide +kernel)⟩
theorem lw_p129 : lw_okq (⟨"VersionSearchModel", "sureLetter", "()I"⟩, 37) := ⟨⟨by decide +kernel, by decide +kernel⟩, List.mem_of_getElem? (i := 1231) (by decide +kernel), List.mem_of_getElem? (i := 1812) (by decide +kernel), List.mem_of_getElem? (i := 1813) (by decide +kernel)⟩
theorem lw_p130 : lw_okq (⟨"VersionSearchModel", "askWhere", "()I"⟩, 37) := ⟨⟨by decide +kernel, by decide +kernel⟩, List.mem_of_getElem? (i := 1231) (by decide +kernel), List.mem_of_getElem? (i := 1816) (by decide +kernel), List.mem_of_getElem? (i := 1817) (by decide +kernel)⟩
theorem lw_p131 : lw_okq (⟨"VersionSearchModel", "drawChange", "()V"⟩, 37) := ⟨⟨by decide +kernel, by decide +kernel⟩, List.mem_of_getElem? (i := 1231) (by decide +kernel), List.mem_of_getElem? (i := 1824) (by decide +kernel), List.mem_of_getElem? (i := 1825) (by decide +kernel)⟩
theorem lw_p132 : lw_okq (⟨"VersionSearchModel", "draw", "(I)I"⟩, 37) := ⟨⟨by decide +kernel, by decide +kernel⟩, List.mem_of_getElem? (i := 1231) (by decide +kernel), List.mem_of_getElem? (i := 1828) (by decide +kernel), List.mem_of_getElem? (i := 1829) (by decide +kernel)⟩
theorem lw_p133 : lw_okq (⟨"VersionSearchModel", "firstToken", "(I)I"⟩, 37) := ⟨⟨by decide +kernel, by decide +kernel⟩, List.mem_of_getElem? (i := 1231) (by decide +kernel), List.mem_of_getElem? (i := 1833) (by decide +kernel), List.mem_of_getElem? (i := 1834) (by decide +kernel)⟩
theorem lw_p134 : lw_okq (⟨"VersionSearchModel", "makes", "(I)V"⟩, 37) := ⟨⟨by decide +kernel, by decide +kernel⟩, List.mem_of_getElem? (i := 1231) (by decide +kernel), List.mem_of_getElem? (i := 1837) (by decide +kernel), List.mem_of_getElem? (i := 1838) (by decide +kernel)⟩
theorem lw_p135 : lw_okq (⟨"VersionSearchModel", "tokensOf", "(I)I"⟩, 37) := ⟨⟨by decide +kernel, by decide +kernel⟩, List.mem_of_getElem? (i := 1231) (by decide +kernel), List.mem_of_getElem? (i := 1841) (by decide +kernel), List.mem_of_getElem? (i := 1842) (by decide +kernel)⟩
theorem lw_p136 : lw_okq (⟨"VersionSearchModel", "copyAll", "(II)V"⟩, 37) := ⟨⟨by decide +kernel, by decide +kernel⟩, List.mem_of_getElem? (i := 1231) (by decide +kernel), List.mem_of_getElem? (i := 1853) (by decide +kernel), List.mem_of_getElem? (i := 1854) (by decide +kernel)⟩
def lw_privs_9 : List (MethodName × Nat) := [(⟨"VersionSearchModel", "noteFit", "(II)V"⟩, 37), (⟨"VersionSearchModel", "sureLetter", "()I"⟩, 37), (⟨"VersionSearchModel", "askWhere", "()I"⟩, 37), (⟨"VersionSearchModel", "drawChange", "()V"⟩, 37), (⟨"VersionSearchModel", "draw", "(I)I"⟩, 37), (⟨"VersionSearchModel", "firstToken", "(I)I"⟩, 37), (⟨"VersionSearchModel", "makes", "(I)V"⟩, 37), (⟨"VersionSearchModel", "tokensOf", "(I)I"⟩, 37), (⟨"VersionSearchModel", "copyAll", "(II)V"⟩, 37)]
theorem lw_r9 : ∀ q ∈ lw_privs_9, lw_okq q := List.forall_mem_cons.mpr ⟨lw_p128, List.forall_mem_cons.mpr ⟨lw_p129, List.forall_mem_cons.mpr ⟨lw_p130, List.forall_mem_cons.mpr ⟨lw_p131, List.forall_mem_cons.mpr ⟨lw_p132, List.forall_mem_cons.mpr ⟨lw_p133, List.forall_mem_cons.mpr ⟨lw_p134, List.forall_mem_cons.mpr ⟨lw_p135, List.forall_mem_cons.mpr ⟨lw_p136, fun _ h => absurd h List.not_mem_nil⟩⟩⟩⟩⟩⟩⟩⟩⟩
def lw_privs : List (MethodName × Nat) := lw_privs_1 ++ (lw_privs_2 ++ (lw_privs_3 ++ (lw_privs_4 ++ (lw_privs_5 ++ (lw_privs_6 ++ (lw_privs_7 ++ (lw_privs_8 ++ (lw_privs_9))))))))
def lw_tbl : List Cond := k2_sels lw_privs ++ tables_1
theorem lw_privs_ok : ∀ q ∈ lw_privs, lw_okq q := by
  show ∀ q ∈ lw_privs_1 ++ (lw_privs_2 ++ (lw_privs_3 ++ (lw_privs_4 ++ (lw_privs_5 ++ (lw_privs_6 ++ (lw_privs_7 ++ (lw_privs_8 ++ (lw_privs_9)))))))), lw_okq q
  exact List.forall_mem_append.mpr ⟨lw_r1, List.forall_mem_append.mpr ⟨lw_r2, List.forall_mem_append.mpr ⟨lw_r3, List.forall_mem_append.mpr ⟨lw_r4, List.forall_mem_append.mpr ⟨lw_r5, List.forall_mem_append.mpr ⟨lw_r6, List.forall_mem_append.mpr ⟨lw_r7, List.forall_mem_append.mpr ⟨lw_r8, lw_r9⟩⟩⟩⟩⟩⟩⟩⟩
def RX0 : String := "VersionSearch$Archive"
def TX0 : u_T := fun k => match k with
  | 0 => ("VersionSearch$Archive", "documents", "I", false)
  | 1 => ("VersionSearch$Archive", "tokens", "I", false)
  | 2 => ("VersionSearch$Archive", "words", "I", false)
  | 3 => ("VersionSearch$Archive", "versions", "[I", true)
  | 4 => ("VersionSearch$Archive", "dates", "[I", true)
  | 5 => ("VersionSearch$Archive", "lengths", "[I", true)
  | 6 => ("VersionSearch$Archive", "rows", "[I", true)
  | 7 => ("VersionSearch$Archive", "spellings", "[I", true)
  | 8 => ("VersionSearch$Archive", "owners", "[I", true)
  | 9 => ("VersionSearch$Archive", "stays", "[I", true)
  | 10 => ("VersionSearch$Archive", "wordList", "[I", true)
  | _ => ("VersionSearch$Archive", "wordSlots", "[J", true)
def tyX0 : Nat → FieldType := fun k => match k with
  | 0 => .int
  | 1 => .int
  | 2 => .int
  | 3 => .array .int
  | 4 => .array .int
  | 5 => .array .int
  | 6 => .array .int
  | 7 => .array .int
  | 8 => .array .int
  | 9 => .array .int
  | 10 => .array .int
  | _ => .array .long
theorem nmX0 : ∀ a, a < 12 → ∀ b, b < 12 → a ≠ b → (TX0 a).2.1 ≠ (TX0 b).2.1 := by decide +kernel
theorem tyX0_ok : ∀ k, k < 12 → parseFieldDescriptor (TX0 k).2.2.1 = some (tyX0 k) := by decide +kernel
abbrev cX0_init : ByteArray := prog_2_method_1_code
def yX0_init : MethodName := ⟨RX0, "<init>", "()V"⟩
abbrev cX0_clear : ByteArray := prog_2_method_2_code
def yX0_clear : MethodName := ⟨RX0, "clear", "()V"⟩
abbrev cX0_copyFrom : ByteArray := prog_2_method_3_code
def yX0_copyFrom : MethodName := ⟨RX0, "copyFrom", "(LVersionSearch$Archive;)V"⟩
abbrev cX0_slotOf : ByteArray := prog_2_method_4_code
def yX0_slotOf : MethodName := ⟨RX0, "slotOf", "(II)I"⟩
abbrev cX0_hasDocument : ByteArray := prog_2_method_5_code
def yX0_hasDocument : MethodName := ⟨RX0, "hasDocument", "(I)Z"⟩
abbrev cX0_hasVersion : ByteArray := prog_2_method_6_code
def yX0_hasVersion : MethodName := ⟨RX0, "hasVersion", "(II)Z"⟩
abbrev cX0_hasPlace : ByteArray := prog_2_method_7_code
def yX0_hasPlace : MethodName := ⟨RX0, "hasPlace", "(III)Z"⟩
abbrev cX0_hasWord : ByteArray := prog_2_method_8_code
def yX0_hasWord : MethodName := ⟨RX0, "hasWord", "(I)Z"⟩
abbrev cX0_versionsOf : ByteArray := prog_2_method_9_code
def yX0_versionsOf : MethodName := ⟨RX0, "versionsOf", "(I)I"⟩
abbrev cX0_versionsOfAll : ByteArray := prog_2_method_10_code
def yX0_versionsOfAll : MethodName := ⟨RX0, "versionsOfAll", "()I"⟩
abbrev cX0_everyVersion : ByteArray := prog_2_method_11_code
def yX0_everyVersion : MethodName := ⟨RX0, "everyVersion", "(I)I"⟩
abbrev cX0_lengthOf : ByteArray := prog_2_method_12_code
def yX0_lengthOf : MethodName := ⟨RX0, "lengthOf", "(II)I"⟩
abbrev cX0_latestLength : ByteArray := prog_2_method_13_code
def yX0_latestLength : MethodName := ⟨RX0, "latestLength", "(I)I"⟩
abbrev cX0_dateOf : ByteArray := prog_2_method_14_code
def yX0_dateOf : MethodName := ⟨RX0, "dateOf", "(II)I"⟩
abbrev cX0_tokenAt : ByteArray := prog_2_method_15_code
def yX0_tokenAt : MethodName := ⟨RX0, "tokenAt", "(III)I"⟩
abbrev cX0_spellingAt : ByteArray := prog_2_method_16_code
def yX0_spellingAt : MethodName := ⟨RX0, "spellingAt", "(III)I"⟩
abbrev cX0_wordNumberAt : ByteArray := prog_2_method_17_code
def yX0_wordNumberAt : MethodName := ⟨RX0, "wordNumberAt", "(III)I"⟩
abbrev cX0_stayOf : ByteArray := prog_2_method_18_code
def yX0_stayOf : MethodName := ⟨RX0, "stayOf", "(I)I"⟩
abbrev cX0_ownerOf : ByteArray := prog_2_method_19_code
def yX0_ownerOf : MethodName := ⟨RX0, "ownerOf", "(I)I"⟩
abbrev cX0_tokensOf : ByteArray := prog_2_method_20_code
def yX0_tokensOf : MethodName := ⟨RX0, "tokensOf", "(I)I"⟩
abbrev cX0_firstTokenOf : ByteArray := prog_2_method_21_code
def yX0_firstTokenOf : MethodName := ⟨RX0, "firstTokenOf", "(I)I"⟩
abbrev cX0_wordAt : ByteArray := prog_2_method_22_code
def yX0_wordAt : MethodName := ⟨RX0, "wordAt", "(I)I"⟩
abbrev cX0_slotsOfWord : ByteArray := prog_2_method_23_code
def yX0_slotsOfWord : MethodName := ⟨RX0, "slotsOfWord", "(I)J"⟩
abbrev cX0_addDocument : ByteArray := prog_2_method_24_code
def yX0_addDocument : MethodName := ⟨RX0, "addDocument", "([III)V"⟩
abbrev cX0_putWords : ByteArray := prog_2_method_25_code
def yX0_putWords : MethodName := ⟨RX0, "putWords", "(II[III)V"⟩
abbrev cX0_cutWords : ByteArray := prog_2_method_26_code
def yX0_cutWords : MethodName := ⟨RX0, "cutWords", "(IIII)V"⟩
abbrev cX0_moveWord : ByteArray := prog_2_method_27_code
def yX0_moveWord : MethodName := ⟨RX0, "moveWord", "(IIII)V"⟩
abbrev cX0_goBack : ByteArray := prog_2_method_28_code
def yX0_goBack : MethodName := ⟨RX0, "goBack", "(III)V"⟩
abbrev cX0_open : ByteArray := prog_2_method_29_code
def yX0_open : MethodName := ⟨RX0, "open", "(II)I"⟩
abbrev cX0_insert : ByteArray := prog_2_method_30_code
def yX0_insert : MethodName := ⟨RX0, "insert", "(III)V"⟩
abbrev cX0_remove : ByteArray := prog_2_method_31_code
def yX0_remove : MethodName := ⟨RX0, "remove", "(II)I"⟩
abbrev cX0_newToken : ByteArray := prog_2_method_32_code
def yX0_newToken : MethodName := ⟨RX0, "newToken", "(II)I"⟩
abbrev cX0_close : ByteArray := prog_2_method_33_code
def yX0_close : MethodName := ⟨RX0, "close", "(III)V"⟩
abbrev cX0_listWords : ByteArray := prog_2_method_34_code
def yX0_listWords : MethodName := ⟨RX0, "listWords", "()V"⟩
abbrev cX0_placeOfWord : ByteArray := prog_2_method_35_code
def yX0_placeOfWord : MethodName := ⟨RX0, "placeOfWord", "(I)I"⟩
abbrev cX0_openWord : ByteArray := prog_2_method_36_code
def yX0_openWord : MethodName := ⟨RX0, "openWord", "(II)V"⟩
def RX1 : String := "VersionSearch$Drawing"
def TX1 : u_T := fun k => match k with
  | 0 => ("VersionSearch$Drawing", "grown", "LVersionSearch$Archive;", true)
  | 1 => ("VersionSearch$Drawing", "oneWord", "[I", true)
  | _ => ("VersionSearch$Drawing", "x", "I", false)
def tyX1 : Nat → FieldType := fun k => match k with
  | 0 => .object "VersionSearch$Archive"
  | 1 => .array .int
  | _ => .int
theorem nmX1 : ∀ a, a < 3 → ∀ b, b < 3 → a ≠ b → (TX1 a).2.1 ≠ (TX1 b).2.1 := by decide +kernel
theorem tyX1_ok : ∀ k, k < 3 → parseFieldDescriptor (TX1 k).2.2.1 = some (tyX1 k) := by decide +kernel
abbrev cX1_init : ByteArray := prog_3_method_1_code
def yX1_init : MethodName := ⟨RX1, "<init>", "()V"⟩
abbrev cX1_goOn : ByteArray := prog_3_method_2_code
def yX1_goOn : MethodName := ⟨RX1, "goOn", "(LVersionSearch$Archive;II)LVersionSearch$Archive;"⟩
abbrev cX1_below : ByteArray := prog_3_method_3_code
def yX1_below : MethodName := ⟨RX1, "below", "(I)I"⟩
abbrev cX1_deed : ByteArray := prog_3_method_4_code
def yX1_deed : MethodName := ⟨RX1, "deed", "(II)V"⟩
abbrev cX1_mayGoOn : ByteArray := prog_3_method_5_code
def yX1_mayGoOn : MethodName := ⟨RX1, "mayGoOn", "(I)Z"⟩
abbrev cX1_cut : ByteArray := prog_3_method_6_code
def yX1_cut : MethodName := ⟨RX1, "cut", "(I)V"⟩
abbrev cX1_put : ByteArray := prog_3_method_7_code
def yX1_put : MethodName := ⟨RX1, "put", "(I)V"⟩
abbrev cX1_move : ByteArray := prog_3_method_8_code
def yX1_move : MethodName := ⟨RX1, "move", "(I)V"⟩
abbrev cX1_back : ByteArray := prog_3_method_9_code
def yX1_back : MethodName := ⟨RX1, "back", "(I)V"⟩
def RX2 : String := "VersionSearch$History"
def TX2 : u_T := fun k => match k with
  | _ => ("VersionSearch$History", "commonRow", "[I", true)
def tyX2 : Nat → FieldType := fun k => match k with
  | _ => .array .int
theorem nmX2 : ∀ a, a < 1 → ∀ b, b < 1 → a ≠ b → (TX2 a).2.1 ≠ (TX2 b).2.1 := by decide +kernel
theorem tyX2_ok : ∀ k, k < 1 → parseFieldDescriptor (TX2 k).2.2.1 = some (tyX2 k) := by decide +kernel
abbrev cX2_init : ByteArray := prog_4_method_1_code
def yX2_init : MethodName := ⟨RX2, "<init>", "()V"⟩
abbrev cX2_size : ByteArray := prog_4_method_2_code
def yX2_size : MethodName := ⟨RX2, "size", "(LVersionSearch$Archive;)I"⟩
abbrev cX2_postings : ByteArray := prog_4_method_3_code
def yX2_postings : MethodName := ⟨RX2, "postings", "(LVersionSearch$Archive;)I"⟩
abbrev cX2_longestDocument : ByteArray := prog_4_method_4_code
def yX2_longestDocument : MethodName := ⟨RX2, "longestDocument", "(LVersionSearch$Archive;)I"⟩
abbrev cX2_twins : ByteArray := prog_4_method_5_code
def yX2_twins : MethodName := ⟨RX2, "twins", "(LVersionSearch$Archive;)I"⟩
abbrev cX2_twinsAhead : ByteArray := prog_4_method_6_code
def yX2_twinsAhead : MethodName := ⟨RX2, "twinsAhead", "(LVersionSearch$Archive;II)I"⟩
abbrev cX2_sameWords : ByteArray := prog_4_method_7_code
def yX2_sameWords : MethodName := ⟨RX2, "sameWords", "(LVersionSearch$Archive;IIII)Z"⟩
abbrev cX2_passages : ByteArray := prog_4_method_8_code
def yX2_passages : MethodName := ⟨RX2, "passages", "(LVersionSearch$Archive;IZ)I"⟩
abbrev cX2_stayTogether : ByteArray := prog_4_method_9_code
def yX2_stayTogether : MethodName := ⟨RX2, "stayTogether", "(LVersionSearch$Archive;III)Z"⟩
abbrev cX2_placeOf : ByteArray := prog_4_method_10_code
def yX2_placeOf : MethodName := ⟨RX2, "placeOf", "(LVersionSearch$Archive;III)I"⟩
abbrev cX2_kept : ByteArray := prog_4_method_11_code
def yX2_kept : MethodName := ⟨RX2, "kept", "(LVersionSearch$Archive;I)I"⟩
abbrev cX2_returns : ByteArray := prog_4_method_12_code
def yX2_returns : MethodName := ⟨RX2, "returns", "(LVersionSearch$Archive;I)I"⟩
abbrev cX2_wasBefore : ByteArray := prog_4_method_13_code
def yX2_wasBefore : MethodName := ⟨RX2, "wasBefore", "(LVersionSearch$Archive;II)Z"⟩
abbrev cX2_fresh : ByteArray := prog_4_method_14_code
def yX2_fresh : MethodName := ⟨RX2, "fresh", "(LVersionSearch$Archive;II)I"⟩
abbrev cX2_lost : ByteArray := prog_4_method_15_code
def yX2_lost : MethodName := ⟨RX2, "lost", "(LVersionSearch$Archive;II)I"⟩
abbrev cX2_inBoth : ByteArray := prog_4_method_16_code
def yX2_inBoth : MethodName := ⟨RX2, "inBoth", "(LVersionSearch$Archive;III)I"⟩
abbrev cX2_turned : ByteArray := prog_4_method_17_code
def yX2_turned : MethodName := ⟨RX2, "turned", "(LVersionSearch$Archive;II)I"⟩
abbrev cX2_oldest : ByteArray := prog_4_method_18_code
def yX2_oldest : MethodName := ⟨RX2, "oldest", "(LVersionSearch$Archive;II)I"⟩
abbrev cX2_documentOfDate : ByteArray := prog_4_method_19_code
def yX2_documentOfDate : MethodName := ⟨RX2, "documentOfDate", "(LVersionSearch$Archive;I)I"⟩
abbrev cX2_longestRow : ByteArray := prog_4_method_20_code
def yX2_longestRow : MethodName := ⟨RX2, "longestRow", "(LVersionSearch$Archive;IIII)I"⟩
abbrev cX2_documentsOfWord : ByteArray := prog_4_method_21_code
def yX2_documentsOfWord : MethodName := ⟨RX2, "documentsOfWord", "(LVersionSearch$Archive;I)I"⟩
abbrev cX2_firstDateOfWord : ByteArray := prog_4_method_22_code
def yX2_firstDateOfWord : MethodName := ⟨RX2, "firstDateOfWord", "(LVersionSearch$Archive;I)I"⟩
abbrev cX2_spread : ByteArray := prog_4_method_23_code
def yX2_spread : MethodName := ⟨RX2, "spread", "(LVersionSearch$Archive;I)I"⟩
abbrev cX2_timesIn : ByteArray := prog_4_method_24_code
def yX2_timesIn : MethodName := ⟨RX2, "timesIn", "(LVersionSearch$Archive;III)I"⟩
def RX3 : String := "VersionSearch$Hunt"
def TX3 : u_T := fun k => match k with
  | 0 => ("VersionSearch$Hunt", "size", "I", false)
  | _ => ("VersionSearch$Hunt", "parts", "[I", true)
def tyX3 : Nat → FieldType := fun k => match k with
  | 0 => .int
  | _ => .array .int
theorem nmX3 : ∀ a, a < 2 → ∀ b, b < 2 → a ≠ b → (TX3 a).2.1 ≠ (TX3 b).2.1 := by decide +kernel
theorem tyX3_ok : ∀ k, k < 2 → parseFieldDescriptor (TX3 k).2.2.1 = some (tyX3 k) := by decide +kernel
abbrev cX3_init : ByteArray := prog_5_method_1_code
def yX3_init : MethodName := ⟨RX3, "<init>", "()V"⟩
abbrev cX3_copyFrom : ByteArray := prog_5_method_2_code
def yX3_copyFrom : MethodName := ⟨RX3, "copyFrom", "(LVersionSearch$Hunt;)V"⟩
abbrev cX3_add : ByteArray := prog_5_method_3_code
def yX3_add : MethodName := ⟨RX3, "add", "(LVersionSearch$Line;)V"⟩
abbrev cX3_has : ByteArray := prog_5_method_4_code
def yX3_has : MethodName := ⟨RX3, "has", "(I)Z"⟩
abbrev cX3_partOf : ByteArray := prog_5_method_5_code
def yX3_partOf : MethodName := ⟨RX3, "partOf", "(II)I"⟩
abbrev cX3_slotsTold : ByteArray := prog_5_method_6_code
def yX3_slotsTold : MethodName := ⟨RX3, "slotsTold", "(I)J"⟩
abbrev cX3_keepsTo : ByteArray := prog_5_method_7_code
def yX3_keepsTo : MethodName := ⟨RX3, "keepsTo", "(JJJ)Z"⟩
abbrev cX3_fitting : ByteArray := prog_5_method_8_code
def yX3_fitting : MethodName := ⟨RX3, "fitting", "(LVersionSearch$Archive;)I"⟩
abbrev cX3_fittingAt : ByteArray := prog_5_method_9_code
def yX3_fittingAt : MethodName := ⟨RX3, "fittingAt", "(LVersionSearch$Archive;I)I"⟩
abbrev cX3_sureLetter : ByteArray := prog_5_method_10_code
def yX3_sureLetter : MethodName := ⟨RX3, "sureLetter", "(LVersionSearch$Archive;)I"⟩
abbrev cX3_askVersion : ByteArray := prog_5_method_11_code
def yX3_askVersion : MethodName := ⟨RX3, "askVersion", "(LVersionSearch$Archive;)I"⟩
abbrev cX3_fittingIn : ByteArray := prog_5_method_12_code
def yX3_fittingIn : MethodName := ⟨RX3, "fittingIn", "(LVersionSearch$Archive;I)I"⟩
def RX4 : String := "VersionSearch$Line"
def TX4 : u_T := fun k => match k with
  | 0 => ("VersionSearch$Line", "kind", "I", false)
  | 1 => ("VersionSearch$Line", "place", "I", false)
  | 2 => ("VersionSearch$Line", "numbers", "I", false)
  | 3 => ("VersionSearch$Line", "words", "I", false)
  | 4 => ("VersionSearch$Line", "misspeltPlace", "I", false)
  | 5 => ("VersionSearch$Line", "values", "[I", true)
  | 6 => ("VersionSearch$Line", "valuePlaces", "[I", true)
  | 7 => ("VersionSearch$Line", "spellings", "[I", true)
  | _ => ("VersionSearch$Line", "wordPlaces", "[I", true)
def tyX4 : Nat → FieldType := fun k => match k with
  | 0 => .int
  | 1 => .int
  | 2 => .int
  | 3 => .int
  | 4 => .int
  | 5 => .array .int
  | 6 => .array .int
  | 7 => .array .int
  | _ => .array .int
theorem nmX4 : ∀ a, a < 9 → ∀ b, b < 9 → a ≠ b → (TX4 a).2.1 ≠ (TX4 b).2.1 := by decide +kernel
theorem tyX4_ok : ∀ k, k < 9 → parseFieldDescriptor (TX4 k).2.2.1 = some (tyX4 k) := by decide +kernel
abbrev cX4_init : ByteArray := prog_6_method_1_code
def yX4_init : MethodName := ⟨RX4, "<init>", "()V"⟩
abbrev cX4_read : ByteArray := prog_6_method_2_code
def yX4_read : MethodName := ⟨RX4, "read", "(LVersionSearch$Tape;I)I"⟩
abbrev cX4_takesNumber : ByteArray := prog_6_method_3_code
def yX4_takesNumber : MethodName := ⟨RX4, "takesNumber", "(LVersionSearch$Tape;)Z"⟩
abbrev cX4_takesWord : ByteArray := prog_6_method_4_code
def yX4_takesWord : MethodName := ⟨RX4, "takesWord", "(LVersionSearch$Tape;)Z"⟩
abbrev cX4_value : ByteArray := prog_6_method_5_code
def yX4_value : MethodName := ⟨RX4, "value", "(I)I"⟩
abbrev cX4_kindOf : ByteArray := prog_6_method_6_code
def yX4_kindOf : MethodName := ⟨RX4, "kindOf", "(LVersionSearch$Tape;I)I"⟩
abbrev cX4_sortOf : ByteArray := prog_6_method_7_code
def yX4_sortOf : MethodName := ⟨RX4, "sortOf", "(I)I"⟩
abbrev cX4_keywordOf : ByteArray := prog_6_method_8_code
def yX4_keywordOf : MethodName := ⟨RX4, "keywordOf", "(I)Ljava/lang/String;"⟩
abbrev cX4_shapeOf : ByteArray := prog_6_method_9_code
def yX4_shapeOf : MethodName := ⟨RX4, "shapeOf", "(I)Ljava/lang/String;"⟩
def RX5 : String := "VersionSearch$Numbers"
def TX5 : u_T := fun k => match k with
  | _ => ("", "", "", false)
def tyX5 : Nat → FieldType := fun k => match k with
  | _ => .int
theorem nmX5 : ∀ a, a < 0 → ∀ b, b < 0 → a ≠ b → (TX5 a).2.1 ≠ (TX5 b).2.1 := by decide +kernel
theorem tyX5_ok : ∀ k, k < 0 → parseFieldDescriptor (TX5 k).2.2.1 = some (tyX5 k) := by decide +kernel
abbrev cX5_at : ByteArray := prog_7_method_2_code
def yX5_at : MethodName := ⟨RX5, "at", "([II)I"⟩
abbrev cX5_set : ByteArray := prog_7_method_3_code
def yX5_set : MethodName := ⟨RX5, "set", "([III)V"⟩
abbrev cX5_copy : ByteArray := prog_7_method_4_code
def yX5_copy : MethodName := ⟨RX5, "copy", "([I[I)V"⟩
abbrev cX5_bit : ByteArray := prog_7_method_5_code
def yX5_bit : MethodName := ⟨RX5, "bit", "(II)I"⟩
abbrev cX5_firstBit : ByteArray := prog_7_method_6_code
def yX5_firstBit : MethodName := ⟨RX5, "firstBit", "(I)I"⟩
abbrev cX5_lastBit : ByteArray := prog_7_method_7_code
def yX5_lastBit : MethodName := ⟨RX5, "lastBit", "(I)I"⟩
abbrev cX5_runs : ByteArray := prog_7_method_8_code
def yX5_runs : MethodName := ⟨RX5, "runs", "(I)I"⟩
abbrev cX5_runAt : ByteArray := prog_7_method_9_code
def yX5_runAt : MethodName := ⟨RX5, "runAt", "(II)I"⟩
abbrev cX5_wordNumber : ByteArray := prog_7_method_10_code
def yX5_wordNumber : MethodName := ⟨RX5, "wordNumber", "(I)I"⟩
abbrev cX5_firstLetter : ByteArray := prog_7_method_11_code
def yX5_firstLetter : MethodName := ⟨RX5, "firstLetter", "(I)I"⟩
def RX6 : String := "VersionSearch$Questions"
def TX6 : u_T := fun k => match k with
  | 0 => ("VersionSearch$Questions", "size", "I", false)
  | 1 => ("VersionSearch$Questions", "kinds", "[I", true)
  | 2 => ("VersionSearch$Questions", "values", "[I", true)
  | 3 => ("VersionSearch$Questions", "wordCounts", "[I", true)
  | _ => ("VersionSearch$Questions", "spellings", "[I", true)
def tyX6 : Nat → FieldType := fun k => match k with
  | 0 => .int
  | 1 => .array .int
  | 2 => .array .int
  | 3 => .array .int
  | _ => .array .int
theorem nmX6 : ∀ a, a < 5 → ∀ b, b < 5 → a ≠ b → (TX6 a).2.1 ≠ (TX6 b).2.1 := by decide +kernel
theorem tyX6_ok : ∀ k, k < 5 → parseFieldDescriptor (TX6 k).2.2.1 = some (tyX6 k) := by decide +kernel
abbrev cX6_init : ByteArray := prog_8_method_1_code
def yX6_init : MethodName := ⟨RX6, "<init>", "()V"⟩
abbrev cX6_copyFrom : ByteArray := prog_8_method_2_code
def yX6_copyFrom : MethodName := ⟨RX6, "copyFrom", "(LVersionSearch$Questions;)V"⟩
abbrev cX6_add : ByteArray := prog_8_method_3_code
def yX6_add : MethodName := ⟨RX6, "add", "(LVersionSearch$Line;)V"⟩
abbrev cX6_has : ByteArray := prog_8_method_4_code
def yX6_has : MethodName := ⟨RX6, "has", "(I)Z"⟩
abbrev cX6_kindOf : ByteArray := prog_8_method_5_code
def yX6_kindOf : MethodName := ⟨RX6, "kindOf", "(I)I"⟩
abbrev cX6_numberOf : ByteArray := prog_8_method_6_code
def yX6_numberOf : MethodName := ⟨RX6, "numberOf", "(II)I"⟩
abbrev cX6_wordsOf : ByteArray := prog_8_method_7_code
def yX6_wordsOf : MethodName := ⟨RX6, "wordsOf", "(I)I"⟩
abbrev cX6_wordOf : ByteArray := prog_8_method_8_code
def yX6_wordOf : MethodName := ⟨RX6, "wordOf", "(II)I"⟩
def RX7 : String := "VersionSearch$Reader"
def TX7 : u_T := fun k => match k with
  | 0 => ("VersionSearch$Reader", "line", "LVersionSearch$Line;", true)
  | 1 => ("VersionSearch$Reader", "archive", "LVersionSearch$Archive;", true)
  | 2 => ("VersionSearch$Reader", "questions", "LVersionSearch$Questions;", true)
  | 3 => ("VersionSearch$Reader", "hunt", "LVersionSearch$Hunt;", true)
  | 4 => ("VersionSearch$Reader", "faultSort", "I", false)
  | _ => ("VersionSearch$Reader", "faultPlace", "I", false)
def tyX7 : Nat → FieldType := fun k => match k with
  | 0 => .object "VersionSearch$Line"
  | 1 => .object "VersionSearch$Archive"
  | 2 => .object "VersionSearch$Questions"
  | 3 => .object "VersionSearch$Hunt"
  | 4 => .int
  | _ => .int
theorem nmX7 : ∀ a, a < 6 → ∀ b, b < 6 → a ≠ b → (TX7 a).2.1 ≠ (TX7 b).2.1 := by decide +kernel
theorem tyX7_ok : ∀ k, k < 6 → parseFieldDescriptor (TX7 k).2.2.1 = some (tyX7 k) := by decide +kernel
abbrev cX7_init : ByteArray := prog_9_method_1_code
def yX7_init : MethodName := ⟨RX7, "<init>", "()V"⟩
abbrev cX7_take : ByteArray := prog_9_method_2_code
def yX7_take : MethodName := ⟨RX7, "take", "(LVersionSearch$Tape;I)V"⟩
abbrev cX7_noteNoText : ByteArray := prog_9_method_3_code
def yX7_noteNoText : MethodName := ⟨RX7, "noteNoText", "(LVersionSearch$Tape;I)V"⟩
abbrev cX7_note : ByteArray := prog_9_method_4_code
def yX7_note : MethodName := ⟨RX7, "note", "(II)V"⟩
abbrev cX7_noteWhatCanNotBe : ByteArray := prog_9_method_5_code
def yX7_noteWhatCanNotBe : MethodName := ⟨RX7, "noteWhatCanNotBe", "()V"⟩
abbrev cX7_least : ByteArray := prog_9_method_6_code
def yX7_least : MethodName := ⟨RX7, "least", "(I)I"⟩
abbrev cX7_most : ByteArray := prog_9_method_7_code
def yX7_most : MethodName := ⟨RX7, "most", "(I)I"⟩
abbrev cX7_takeVersion : ByteArray := prog_9_method_8_code
def yX7_takeVersion : MethodName := ⟨RX7, "takeVersion", "(I)V"⟩
abbrev cX7_noteFirstToken : ByteArray := prog_9_method_9_code
def yX7_noteFirstToken : MethodName := ⟨RX7, "noteFirstToken", "()V"⟩
abbrev cX7_isThere : ByteArray := prog_9_method_10_code
def yX7_isThere : MethodName := ⟨RX7, "isThere", "(II)Z"⟩
abbrev cX7_noteTooManyWords : ByteArray := prog_9_method_11_code
def yX7_noteTooManyWords : MethodName := ⟨RX7, "noteTooManyWords", "(I)V"⟩
abbrev cX7_makeVersion : ByteArray := prog_9_method_12_code
def yX7_makeVersion : MethodName := ⟨RX7, "makeVersion", "(I)V"⟩
abbrev cX7_takeQuestion : ByteArray := prog_9_method_13_code
def yX7_takeQuestion : MethodName := ⟨RX7, "takeQuestion", "()V"⟩
abbrev cX7_takeFact : ByteArray := prog_9_method_14_code
def yX7_takeFact : MethodName := ⟨RX7, "takeFact", "()V"⟩
def RX8 : String := "VersionSearch$Search"
def TX8 : u_T := fun k => match k with
  | _ => ("VersionSearch$Search", "heldBits", "[I", true)
def tyX8 : Nat → FieldType := fun k => match k with
  | _ => .array .int
theorem nmX8 : ∀ a, a < 1 → ∀ b, b < 1 → a ≠ b → (TX8 a).2.1 ≠ (TX8 b).2.1 := by decide +kernel
theorem tyX8_ok : ∀ k, k < 1 → parseFieldDescriptor (TX8 k).2.2.1 = some (tyX8 k) := by decide +kernel
abbrev cX8_init : ByteArray := prog_10_method_1_code
def yX8_init : MethodName := ⟨RX8, "<init>", "()V"⟩
abbrev cX8_look : ByteArray := prog_10_method_2_code
def yX8_look : MethodName := ⟨RX8, "look", "(LVersionSearch$Archive;LVersionSearch$Questions;I)V"⟩
abbrev cX8_held : ByteArray := prog_10_method_3_code
def yX8_held : MethodName := ⟨RX8, "held", "(II)I"⟩
abbrev cX8_lookIn : ByteArray := prog_10_method_4_code
def yX8_lookIn : MethodName := ⟨RX8, "lookIn", "(LVersionSearch$Archive;LVersionSearch$Questions;II)I"⟩
abbrev cX8_lookAtWords : ByteArray := prog_10_method_5_code
def yX8_lookAtWords : MethodName := ⟨RX8, "lookAtWords", "(LVersionSearch$Archive;LVersionSearch$Questions;II)I"⟩
abbrev cX8_areMany : ByteArray := prog_10_method_6_code
def yX8_areMany : MethodName := ⟨RX8, "areMany", "(LVersionSearch$Archive;LVersionSearch$Questions;III)Z"⟩
abbrev cX8_beginnings : ByteArray := prog_10_method_7_code
def yX8_beginnings : MethodName := ⟨RX8, "beginnings", "(LVersionSearch$Archive;LVersionSearch$Questions;III)I"⟩
abbrev cX8_areNear : ByteArray := prog_10_method_8_code
def yX8_areNear : MethodName := ⟨RX8, "areNear", "(LVersionSearch$Archive;LVersionSearch$Questions;III)Z"⟩
abbrev cX8_everIn : ByteArray := prog_10_method_9_code
def yX8_everIn : MethodName := ⟨RX8, "everIn", "(LVersionSearch$Archive;I)I"⟩
abbrev cX8_alwaysIn : ByteArray := prog_10_method_10_code
def yX8_alwaysIn : MethodName := ⟨RX8, "alwaysIn", "(LVersionSearch$Archive;I)I"⟩
abbrev cX8_versionsHeld : ByteArray := prog_10_method_11_code
def yX8_versionsHeld : MethodName := ⟨RX8, "versionsHeld", "(LVersionSearch$Archive;I)I"⟩
abbrev cX8_asOf : ByteArray := prog_10_method_12_code
def yX8_asOf : MethodName := ⟨RX8, "asOf", "(LVersionSearch$Archive;II)I"⟩
abbrev cX8_changes : ByteArray := prog_10_method_13_code
def yX8_changes : MethodName := ⟨RX8, "changes", "(LVersionSearch$Archive;I)I"⟩
abbrev cX8_changeAt : ByteArray := prog_10_method_14_code
def yX8_changeAt : MethodName := ⟨RX8, "changeAt", "(LVersionSearch$Archive;II)I"⟩
abbrev cX8_isChange : ByteArray := prog_10_method_15_code
def yX8_isChange : MethodName := ⟨RX8, "isChange", "(LVersionSearch$Archive;II)Z"⟩
abbrev cX8_ranked : ByteArray := prog_10_method_16_code
def yX8_ranked : MethodName := ⟨RX8, "ranked", "(LVersionSearch$Archive;II)I"⟩
abbrev cX8_isAhead : ByteArray := prog_10_method_17_code
def yX8_isAhead : MethodName := ⟨RX8, "isAhead", "(LVersionSearch$Archive;III)Z"⟩
abbrev cX8_latestHeld : ByteArray := prog_10_method_18_code
def yX8_latestHeld : MethodName := ⟨RX8, "latestHeld", "(LVersionSearch$Archive;II)I"⟩
abbrev cX8_heldMost : ByteArray := prog_10_method_19_code
def yX8_heldMost : MethodName := ⟨RX8, "heldMost", "(LVersionSearch$Archive;LVersionSearch$Questions;)I"⟩
abbrev cX8_sameCouples : ByteArray := prog_10_method_20_code
def yX8_sameCouples : MethodName := ⟨RX8, "sameCouples", "(LVersionSearch$Archive;LVersionSearch$Questions;)I"⟩
abbrev cX8_within : ByteArray := prog_10_method_21_code
def yX8_within : MethodName := ⟨RX8, "within", "(LVersionSearch$Archive;II)Z"⟩
def RX9 : String := "VersionSearch$State"
def TX9 : u_T := fun k => match k with
  | 0 => ("VersionSearch$State", "tape", "LVersionSearch$Tape;", true)
  | 1 => ("VersionSearch$State", "faultSort", "I", false)
  | 2 => ("VersionSearch$State", "faultPlace", "I", false)
  | 3 => ("VersionSearch$State", "counts", "[I", true)
  | 4 => ("VersionSearch$State", "archives", "[LVersionSearch$Archive;", true)
  | 5 => ("VersionSearch$State", "questions", "[LVersionSearch$Questions;", true)
  | _ => ("VersionSearch$State", "hunts", "[LVersionSearch$Hunt;", true)
def tyX9 : Nat → FieldType := fun k => match k with
  | 0 => .object "VersionSearch$Tape"
  | 1 => .int
  | 2 => .int
  | 3 => .array .int
  | 4 => .array (.object "VersionSearch$Archive")
  | 5 => .array (.object "VersionSearch$Questions")
  | _ => .array (.object "VersionSearch$Hunt")
theorem nmX9 : ∀ a, a < 7 → ∀ b, b < 7 → a ≠ b → (TX9 a).2.1 ≠ (TX9 b).2.1 := by decide +kernel
theorem tyX9_ok : ∀ k, k < 7 → parseFieldDescriptor (TX9 k).2.2.1 = some (tyX9 k) := by decide +kernel
abbrev cX9_init : ByteArray := prog_11_method_1_code
def yX9_init : MethodName := ⟨RX9, "<init>", "()V"⟩
abbrev cX9_copyFrom : ByteArray := prog_11_method_2_code
def yX9_copyFrom : MethodName := ⟨RX9, "copyFrom", "(LVersionSearch$State;)V"⟩
abbrev cX9_isSort : ByteArray := prog_11_method_3_code
def yX9_isSort : MethodName := ⟨RX9, "isSort", "(I)Z"⟩
abbrev cX9_howMany : ByteArray := prog_11_method_4_code
def yX9_howMany : MethodName := ⟨RX9, "howMany", "(I)I"⟩
abbrev cX9_isTold : ByteArray := prog_11_method_5_code
def yX9_isTold : MethodName := ⟨RX9, "isTold", "(II)Z"⟩
abbrev cX9_archiveAt : ByteArray := prog_11_method_6_code
def yX9_archiveAt : MethodName := ⟨RX9, "archiveAt", "(I)LVersionSearch$Archive;"⟩
abbrev cX9_questionsAt : ByteArray := prog_11_method_7_code
def yX9_questionsAt : MethodName := ⟨RX9, "questionsAt", "(I)LVersionSearch$Questions;"⟩
abbrev cX9_huntAt : ByteArray := prog_11_method_8_code
def yX9_huntAt : MethodName := ⟨RX9, "huntAt", "(I)LVersionSearch$Hunt;"⟩
abbrev cX9_placeFor : ByteArray := prog_11_method_9_code
def yX9_placeFor : MethodName := ⟨RX9, "placeFor", "(II)I"⟩
abbrev cX9_keep : ByteArray := prog_11_method_10_code
def yX9_keep : MethodName := ⟨RX9, "keep", "(LVersionSearch$Reader;II)V"⟩
def RX10 : String := "VersionSearch$Tape"
def TX10 : u_T := fun k => match k with
  | 0 => ("VersionSearch$Tape", "bytes", "[B", true)
  | 1 => ("VersionSearch$Tape", "length", "I", false)
  | 2 => ("VersionSearch$Tape", "token", "I", false)
  | 3 => ("VersionSearch$Tape", "from", "I", false)
  | _ => ("VersionSearch$Tape", "to", "I", false)
def tyX10 : Nat → FieldType := fun k => match k with
  | 0 => .array .byte
  | 1 => .int
  | 2 => .int
  | 3 => .int
  | _ => .int
theorem nmX10 : ∀ a, a < 5 → ∀ b, b < 5 → a ≠ b → (TX10 a).2.1 ≠ (TX10 b).2.1 := by decide +kernel
theorem tyX10_ok : ∀ k, k < 5 → parseFieldDescriptor (TX10 k).2.2.1 = some (tyX10 k) := by decide +kernel
abbrev cX10_init : ByteArray := prog_12_method_1_code
def yX10_init : MethodName := ⟨RX10, "<init>", "()V"⟩
abbrev cX10_hasRoom : ByteArray := prog_12_method_2_code
def yX10_hasRoom : MethodName := ⟨RX10, "hasRoom", "()Z"⟩
abbrev cX10_add : ByteArray := prog_12_method_3_code
def yX10_add : MethodName := ⟨RX10, "add", "(I)V"⟩
abbrev cX10_copyFrom : ByteArray := prog_12_method_4_code
def yX10_copyFrom : MethodName := ⟨RX10, "copyFrom", "(LVersionSearch$Tape;)V"⟩
abbrev cX10_rewind : ByteArray := prog_12_method_5_code
def yX10_rewind : MethodName := ⟨RX10, "rewind", "()V"⟩
abbrev cX10_next : ByteArray := prog_12_method_6_code
def yX10_next : MethodName := ⟨RX10, "next", "()V"⟩
abbrev cX10_tokenIs : ByteArray := prog_12_method_7_code
def yX10_tokenIs : MethodName := ⟨RX10, "tokenIs", "(Ljava/lang/String;)Z"⟩
abbrev cX10_number : ByteArray := prog_12_method_8_code
def yX10_number : MethodName := ⟨RX10, "number", "()I"⟩
abbrev cX10_isWord : ByteArray := prog_12_method_9_code
def yX10_isWord : MethodName := ⟨RX10, "isWord", "()Z"⟩
abbrev cX10_spelling : ByteArray := prog_12_method_10_code
def yX10_spelling : MethodName := ⟨RX10, "spelling", "()I"⟩
abbrev cX10_byteAt : ByteArray := prog_12_method_11_code
def yX10_byteAt : MethodName := ⟨RX10, "byteAt", "(I)I"⟩
abbrev cX10_isBlank : ByteArray := prog_12_method_12_code
def yX10_isBlank : MethodName := ⟨RX10, "isBlank", "(I)Z"⟩
abbrev cX10_isLetter : ByteArray := prog_12_method_13_code
def yX10_isLetter : MethodName := ⟨RX10, "isLetter", "(I)Z"⟩
abbrev cX10_isDigit : ByteArray := prog_12_method_14_code
def yX10_isDigit : MethodName := ⟨RX10, "isDigit", "(I)Z"⟩
def RX11 : String := "VersionSearch"
def TX11 : u_T := fun k => match k with
  | 0 => ("VersionSearch", "now", "LVersionSearch$State;", true)
  | 1 => ("VersionSearch", "images", "[LVersionSearch$State;", true)
  | 2 => ("VersionSearch", "reader", "LVersionSearch$Reader;", true)
  | 3 => ("VersionSearch", "history", "LVersionSearch$History;", true)
  | 4 => ("VersionSearch", "search", "LVersionSearch$Search;", true)
  | _ => ("VersionSearch", "drawing", "LVersionSearch$Drawing;", true)
def tyX11 : Nat → FieldType := fun k => match k with
  | 0 => .object "VersionSearch$State"
  | 1 => .array (.object "VersionSearch$State")
  | 2 => .object "VersionSearch$Reader"
  | 3 => .object "VersionSearch$History"
  | 4 => .object "VersionSearch$Search"
  | _ => .object "VersionSearch$Drawing"
theorem nmX11 : ∀ a, a < 6 → ∀ b, b < 6 → a ≠ b → (TX11 a).2.1 ≠ (TX11 b).2.1 := by decide +kernel
theorem tyX11_ok : ∀ k, k < 6 → parseFieldDescriptor (TX11 k).2.2.1 = some (tyX11 k) := by decide +kernel
abbrev cX11_init : ByteArray := prog_1_method_1_code
def yX11_init : MethodName := ⟨RX11, "<init>", "()V"⟩
abbrev cX11_feed : ByteArray := prog_1_method_2_code
def yX11_feed : MethodName := ⟨RX11, "feed", "(IIIII)I"⟩
abbrev cX11_end : ByteArray := prog_1_method_3_code
def yX11_end : MethodName := ⟨RX11, "end", "(I)I"⟩
abbrev cX11_text : ByteArray := prog_1_method_4_code
def yX11_text : MethodName := ⟨RX11, "text", "(II)I"⟩
abbrev cX11_fault : ByteArray := prog_1_method_5_code
def yX11_fault : MethodName := ⟨RX11, "fault", "(I)I"⟩
abbrev cX11_archive : ByteArray := prog_1_method_6_code
def yX11_archive : MethodName := ⟨RX11, "archive", "(II)I"⟩
abbrev cX11_ofDocument : ByteArray := prog_1_method_7_code
def yX11_ofDocument : MethodName := ⟨RX11, "ofDocument", "(LVersionSearch$Archive;I)I"⟩
abbrev cX11_version : ByteArray := prog_1_method_8_code
def yX11_version : MethodName := ⟨RX11, "version", "(IIII)I"⟩
abbrev cX11_life : ByteArray := prog_1_method_9_code
def yX11_life : MethodName := ⟨RX11, "life", "(IIIII)I"⟩
abbrev cX11_word : ByteArray := prog_1_method_10_code
def yX11_word : MethodName := ⟨RX11, "word", "(III)I"⟩
abbrev cX11_dated : ByteArray := prog_1_method_11_code
def yX11_dated : MethodName := ⟨RX11, "dated", "(II)I"⟩
abbrev cX11_shared : ByteArray := prog_1_method_12_code
def yX11_shared : MethodName := ⟨RX11, "shared", "(IIII)I"⟩
abbrev cX11_common : ByteArray := prog_1_method_13_code
def yX11_common : MethodName := ⟨RX11, "common", "(IIIII)I"⟩
abbrev cX11_question : ByteArray := prog_1_method_14_code
def yX11_question : MethodName := ⟨RX11, "question", "(III)I"⟩
abbrev cX11_holds : ByteArray := prog_1_method_15_code
def yX11_holds : MethodName := ⟨RX11, "holds", "(IIIII)I"⟩
abbrev cX11_spans : ByteArray := prog_1_method_16_code
def yX11_spans : MethodName := ⟨RX11, "spans", "(IIIIIZ)I"⟩
abbrev cX11_times : ByteArray := prog_1_method_17_code
def yX11_times : MethodName := ⟨RX11, "times", "(IIIII)I"⟩
abbrev cX11_found : ByteArray := prog_1_method_18_code
def yX11_found : MethodName := ⟨RX11, "found", "(IIII)I"⟩
abbrev cX11_foundAt : ByteArray := prog_1_method_19_code
def yX11_foundAt : MethodName := ⟨RX11, "foundAt", "(LVersionSearch$Archive;II)I"⟩
abbrev cX11_best : ByteArray := prog_1_method_20_code
def yX11_best : MethodName := ⟨RX11, "best", "(III)I"⟩
abbrev cX11_implies : ByteArray := prog_1_method_21_code
def yX11_implies : MethodName := ⟨RX11, "implies", "(IIII)I"⟩
abbrev cX11_fact : ByteArray := prog_1_method_22_code
def yX11_fact : MethodName := ⟨RX11, "fact", "(III)I"⟩
abbrev cX11_fits : ByteArray := prog_1_method_23_code
def yX11_fits : MethodName := ⟨RX11, "fits", "(III)I"⟩
abbrev cX11_drawn : ByteArray := prog_1_method_24_code
def yX11_drawn : MethodName := ⟨RX11, "drawn", "(IIIII)I"⟩
abbrev cX11_count : ByteArray := prog_1_method_25_code
def yX11_count : MethodName := ⟨RX11, "count", "(I)I"⟩
abbrev cX11_image : ByteArray := prog_1_method_26_code
def yX11_image : MethodName := ⟨RX11, "image", "(I)Z"⟩
abbrev cX11_again : ByteArray := prog_1_method_27_code
def yX11_again : MethodName := ⟨RX11, "again", "(I)Z"⟩
def RX12 : String := "VersionSearchModel"
def TX12 : u_T := fun k => match k with
  | 0 => ("VersionSearchModel", "code", "I", false)
  | 1 => ("VersionSearchModel", "tape", "[B", true)
  | 2 => ("VersionSearchModel", "size", "[I", true)
  | 3 => ("VersionSearchModel", "fault", "[I", true)
  | 4 => ("VersionSearchModel", "faultPlace", "[I", true)
  | 5 => ("VersionSearchModel", "many", "[I", true)
  | 6 => ("VersionSearchModel", "archives", "[I", true)
  | 7 => ("VersionSearchModel", "askings", "[I", true)
  | 8 => ("VersionSearchModel", "hunts", "[I", true)
  | 9 => ("VersionSearchModel", "reached", "I", false)
  | 10 => ("VersionSearchModel", "length", "I", false)
  | 11 => ("VersionSearchModel", "begins", "I", false)
  | 12 => ("VersionSearchModel", "sort", "I", false)
  | 13 => ("VersionSearchModel", "value", "I", false)
  | 14 => ("VersionSearchModel", "word", "J", false)
  | 15 => ("VersionSearchModel", "wrongAt", "I", false)
  | 16 => ("VersionSearchModel", "laterFault", "I", false)
  | 17 => ("VersionSearchModel", "laterPlace", "I", false)
  | 18 => ("VersionSearchModel", "told", "[I", true)
  | 19 => ("VersionSearchModel", "read", "[I", true)
  | 20 => ("VersionSearchModel", "readWords", "[I", true)
  | 21 => ("VersionSearchModel", "wordsRead", "I", false)
  | 22 => ("VersionSearchModel", "good", "Z", false)
  | 23 => ("VersionSearchModel", "line", "I", false)
  | 24 => ("VersionSearchModel", "tokens", "I", false)
  | 25 => ("VersionSearchModel", "wordsAll", "I", false)
  | 26 => ("VersionSearchModel", "words", "[I", true)
  | 27 => ("VersionSearchModel", "same", "[I", true)
  | 28 => ("VersionSearchModel", "asking", "I", false)
  | 29 => ("VersionSearchModel", "held", "[I", true)
  | 30 => ("VersionSearchModel", "hunt", "I", false)
  | 31 => ("VersionSearchModel", "fit", "I", false)
  | 32 => ("VersionSearchModel", "asked", "I", false)
  | 33 => ("VersionSearchModel", "firsts", "I", false)
  | 34 => ("VersionSearchModel", "seen", "[I", true)
  | 35 => ("VersionSearchModel", "seed", "I", false)
  | _ => ("VersionSearchModel", "saved", "[Z", true)
def tyX12 : Nat → FieldType := fun k => match k with
  | 0 => .int
  | 1 => .array .byte
  | 2 => .array .int
  | 3 => .array .int
  | 4 => .array .int
  | 5 => .array .int
  | 6 => .array .int
  | 7 => .array .int
  | 8 => .array .int
  | 9 => .int
  | 10 => .int
  | 11 => .int
  | 12 => .int
  | 13 => .int
  | 14 => .long
  | 15 => .int
  | 16 => .int
  | 17 => .int
  | 18 => .array .int
  | 19 => .array .int
  | 20 => .array .int
  | 21 => .int
  | 22 => .boolean
  | 23 => .int
  | 24 => .int
  | 25 => .int
  | 26 => .array .int
  | 27 => .array .int
  | 28 => .int
  | 29 => .array .int
  | 30 => .int
  | 31 => .int
  | 32 => .int
  | 33 => .int
  | 34 => .array .int
  | 35 => .int
  | _ => .array .boolean
theorem nmX12 : ∀ a, a < 37 → ∀ b, b < 37 → a ≠ b → (TX12 a).2.1 ≠ (TX12 b).2.1 := by decide +kernel
theorem tyX12_ok : ∀ k, k < 37 → parseFieldDescriptor (TX12 k).2.2.1 = some (tyX12 k) := by decide +kernel
abbrev cX12_init : ByteArray := prog_14_method_1_code
def yX12_init : MethodName := ⟨RX12, "<init>", "()V"⟩
abbrev cX12_in : ByteArray := prog_14_method_3_code
def yX12_in : MethodName := ⟨RX12, "in", "(III)Z"⟩
abbrev cX12_has : ByteArray := prog_14_method_4_code
def yX12_has : MethodName := ⟨RX12, "has", "(II)Z"⟩
abbrev cX12_greater : ByteArray := prog_14_method_5_code
def yX12_greater : MethodName := ⟨RX12, "greater", "(II)I"⟩
abbrev cX12_lesser : ByteArray := prog_14_method_6_code
def yX12_lesser : MethodName := ⟨RX12, "lesser", "(II)I"⟩
abbrev cX12_ones : ByteArray := prog_14_method_7_code
def yX12_ones : MethodName := ⟨RX12, "ones", "(I)I"⟩
abbrev cX12_copyRow : ByteArray := prog_14_method_8_code
def yX12_copyRow : MethodName := ⟨RX12, "copyRow", "([IIII)V"⟩
abbrev cX12_copyAll : ByteArray := prog_14_method_9_code
def yX12_copyAll : MethodName := ⟨RX12, "copyAll", "(II)V"⟩
abbrev cX12_is : ByteArray := prog_14_method_10_code
def yX12_is : MethodName := ⟨RX12, "is", "(II)Z"⟩
abbrev cX12_feed : ByteArray := prog_14_method_11_code
def yX12_feed : MethodName := ⟨RX12, "feed", "(IIIII)I"⟩
abbrev cX12_four : ByteArray := prog_14_method_12_code
def yX12_four : MethodName := ⟨RX12, "four", "(I)V"⟩
abbrev cX12_end : ByteArray := prog_14_method_13_code
def yX12_end : MethodName := ⟨RX12, "end", "(I)I"⟩
abbrev cX12_see : ByteArray := prog_14_method_14_code
def yX12_see : MethodName := ⟨RX12, "see", "()I"⟩
abbrev cX12_token : ByteArray := prog_14_method_15_code
def yX12_token : MethodName := ⟨RX12, "token", "()V"⟩
abbrev cX12_fails : ByteArray := prog_14_method_16_code
def yX12_fails : MethodName := ⟨RX12, "fails", "()Z"⟩
abbrev cX12_addsFault : ByteArray := prog_14_method_17_code
def yX12_addsFault : MethodName := ⟨RX12, "addsFault", "(II)V"⟩
abbrev cX12_take : ByteArray := prog_14_method_18_code
def yX12_take : MethodName := ⟨RX12, "take", "(III)Z"⟩
abbrev cX12_numberOf : ByteArray := prog_14_method_19_code
def yX12_numberOf : MethodName := ⟨RX12, "numberOf", "(J)I"⟩
abbrev cX12_takeWord : ByteArray := prog_14_method_20_code
def yX12_takeWord : MethodName := ⟨RX12, "takeWord", "()Z"⟩
abbrev cX12_takeWords : ByteArray := prog_14_method_21_code
def yX12_takeWords : MethodName := ⟨RX12, "takeWords", "(I)V"⟩
abbrev cX12_at : ByteArray := prog_14_method_22_code
def yX12_at : MethodName := ⟨RX12, "at", "(II)I"⟩
abbrev cX12_beginVersion : ByteArray := prog_14_method_23_code
def yX12_beginVersion : MethodName := ⟨RX12, "beginVersion", "(I)V"⟩
abbrev cX12_latest : ByteArray := prog_14_method_24_code
def yX12_latest : MethodName := ⟨RX12, "latest", "(I)I"⟩
abbrev cX12_addWord : ByteArray := prog_14_method_25_code
def yX12_addWord : MethodName := ⟨RX12, "addWord", "(II)V"⟩
abbrev cX12_newToken : ByteArray := prog_14_method_26_code
def yX12_newToken : MethodName := ⟨RX12, "newToken", "(II)I"⟩
abbrev cX12_docLine : ByteArray := prog_14_method_27_code
def yX12_docLine : MethodName := ⟨RX12, "docLine", "(I)Z"⟩
abbrev cX12_changeBy : ByteArray := prog_14_method_28_code
def yX12_changeBy : MethodName := ⟨RX12, "changeBy", "(J)I"⟩
abbrev cX12_isThere : ByteArray := prog_14_method_29_code
def yX12_isThere : MethodName := ⟨RX12, "isThere", "(I)Z"⟩
abbrev cX12_makeVersion : ByteArray := prog_14_method_30_code
def yX12_makeVersion : MethodName := ⟨RX12, "makeVersion", "(I)V"⟩
abbrev cX12_moves : ByteArray := prog_14_method_31_code
def yX12_moves : MethodName := ⟨RX12, "moves", "(III)V"⟩
abbrev cX12_readPut : ByteArray := prog_14_method_32_code
def yX12_readPut : MethodName := ⟨RX12, "readPut", "()Z"⟩
abbrev cX12_readChange : ByteArray := prog_14_method_33_code
def yX12_readChange : MethodName := ⟨RX12, "readChange", "(I)Z"⟩
abbrev cX12_changeLine : ByteArray := prog_14_method_34_code
def yX12_changeLine : MethodName := ⟨RX12, "changeLine", "(II)Z"⟩
abbrev cX12_archiveLine : ByteArray := prog_14_method_35_code
def yX12_archiveLine : MethodName := ⟨RX12, "archiveLine", "(JI)Z"⟩
abbrev cX12_askingBy : ByteArray := prog_14_method_36_code
def yX12_askingBy : MethodName := ⟨RX12, "askingBy", "(J)I"⟩
abbrev cX12_readAsking : ByteArray := prog_14_method_37_code
def yX12_readAsking : MethodName := ⟨RX12, "readAsking", "(II)Z"⟩
abbrev cX12_askingLine : ByteArray := prog_14_method_38_code
def yX12_askingLine : MethodName := ⟨RX12, "askingLine", "(JI)Z"⟩
abbrev cX12_huntLine : ByteArray := prog_14_method_39_code
def yX12_huntLine : MethodName := ⟨RX12, "huntLine", "(JI)Z"⟩
abbrev cX12_allLines : ByteArray := prog_14_method_40_code
def yX12_allLines : MethodName := ⟨RX12, "allLines", "(I)Z"⟩
abbrev cX12_readText : ByteArray := prog_14_method_41_code
def yX12_readText : MethodName := ⟨RX12, "readText", "(I)Z"⟩
abbrev cX12_store : ByteArray := prog_14_method_42_code
def yX12_store : MethodName := ⟨RX12, "store", "([III)V"⟩
abbrev cX12_text : ByteArray := prog_14_method_43_code
def yX12_text : MethodName := ⟨RX12, "text", "(II)I"⟩
abbrev cX12_fault : ByteArray := prog_14_method_44_code
def yX12_fault : MethodName := ⟨RX12, "fault", "(I)I"⟩
abbrev cX12_hand : ByteArray := prog_14_method_45_code
def yX12_hand : MethodName := ⟨RX12, "hand", "(I)Z"⟩
abbrev cX12_isDoc : ByteArray := prog_14_method_46_code
def yX12_isDoc : MethodName := ⟨RX12, "isDoc", "(I)Z"⟩
abbrev cX12_versions : ByteArray := prog_14_method_47_code
def yX12_versions : MethodName := ⟨RX12, "versions", "(I)I"⟩
abbrev cX12_isVersion : ByteArray := prog_14_method_48_code
def yX12_isVersion : MethodName := ⟨RX12, "isVersion", "(II)Z"⟩
abbrev cX12_longOf : ByteArray := prog_14_method_49_code
def yX12_longOf : MethodName := ⟨RX12, "longOf", "(II)I"⟩
abbrev cX12_tokenAt : ByteArray := prog_14_method_50_code
def yX12_tokenAt : MethodName := ⟨RX12, "tokenAt", "(III)I"⟩
abbrev cX12_wordOf : ByteArray := prog_14_method_51_code
def yX12_wordOf : MethodName := ⟨RX12, "wordOf", "(I)I"⟩
abbrev cX12_wordAt : ByteArray := prog_14_method_52_code
def yX12_wordAt : MethodName := ⟨RX12, "wordAt", "(III)I"⟩
abbrev cX12_placeOf : ByteArray := prog_14_method_53_code
def yX12_placeOf : MethodName := ⟨RX12, "placeOf", "(III)I"⟩
abbrev cX12_whereIs : ByteArray := prog_14_method_54_code
def yX12_whereIs : MethodName := ⟨RX12, "whereIs", "(I)I"⟩
abbrev cX12_rowsIn : ByteArray := prog_14_method_55_code
def yX12_rowsIn : MethodName := ⟨RX12, "rowsIn", "(I)I"⟩
abbrev cX12_firstIn : ByteArray := prog_14_method_56_code
def yX12_firstIn : MethodName := ⟨RX12, "firstIn", "(I)I"⟩
abbrev cX12_lastIn : ByteArray := prog_14_method_57_code
def yX12_lastIn : MethodName := ⟨RX12, "lastIn", "(I)I"⟩
abbrev cX12_areAlike : ByteArray := prog_14_method_58_code
def yX12_areAlike : MethodName := ⟨RX12, "areAlike", "(IIII)Z"⟩
abbrev cX12_versionsAll : ByteArray := prog_14_method_59_code
def yX12_versionsAll : MethodName := ⟨RX12, "versionsAll", "()I"⟩
abbrev cX12_sizeAll : ByteArray := prog_14_method_60_code
def yX12_sizeAll : MethodName := ⟨RX12, "sizeAll", "()I"⟩
abbrev cX12_postings : ByteArray := prog_14_method_61_code
def yX12_postings : MethodName := ⟨RX12, "postings", "()I"⟩
abbrev cX12_longest : ByteArray := prog_14_method_62_code
def yX12_longest : MethodName := ⟨RX12, "longest", "()I"⟩
abbrev cX12_twins : ByteArray := prog_14_method_63_code
def yX12_twins : MethodName := ⟨RX12, "twins", "()I"⟩
abbrev cX12_behindOf : ByteArray := prog_14_method_64_code
def yX12_behindOf : MethodName := ⟨RX12, "behindOf", "(III)I"⟩
abbrev cX12_hasAhead : ByteArray := prog_14_method_65_code
def yX12_hasAhead : MethodName := ⟨RX12, "hasAhead", "(III)Z"⟩
abbrev cX12_passages : ByteArray := prog_14_method_66_code
def yX12_passages : MethodName := ⟨RX12, "passages", "(IZ)I"⟩
abbrev cX12_keptIn : ByteArray := prog_14_method_67_code
def yX12_keptIn : MethodName := ⟨RX12, "keptIn", "(I)I"⟩
abbrev cX12_returns : ByteArray := prog_14_method_68_code
def yX12_returns : MethodName := ⟨RX12, "returns", "(I)I"⟩
abbrev cX12_ofDoc : ByteArray := prog_14_method_69_code
def yX12_ofDoc : MethodName := ⟨RX12, "ofDoc", "(II)I"⟩
abbrev cX12_archive : ByteArray := prog_14_method_70_code
def yX12_archive : MethodName := ⟨RX12, "archive", "(II)I"⟩
abbrev cX12_fresh : ByteArray := prog_14_method_71_code
def yX12_fresh : MethodName := ⟨RX12, "fresh", "(II)I"⟩
abbrev cX12_lost : ByteArray := prog_14_method_72_code
def yX12_lost : MethodName := ⟨RX12, "lost", "(II)I"⟩
abbrev cX12_turned : ByteArray := prog_14_method_73_code
def yX12_turned : MethodName := ⟨RX12, "turned", "(II)I"⟩
abbrev cX12_oldest : ByteArray := prog_14_method_74_code
def yX12_oldest : MethodName := ⟨RX12, "oldest", "(II)I"⟩
abbrev cX12_version : ByteArray := prog_14_method_75_code
def yX12_version : MethodName := ⟨RX12, "version", "(IIII)I"⟩
abbrev cX12_life : ByteArray := prog_14_method_76_code
def yX12_life : MethodName := ⟨RX12, "life", "(IIIII)I"⟩
abbrev cX12_widened : ByteArray := prog_14_method_77_code
def yX12_widened : MethodName := ⟨RX12, "widened", "(I)I"⟩
abbrev cX12_layWords : ByteArray := prog_14_method_78_code
def yX12_layWords : MethodName := ⟨RX12, "layWords", "()V"⟩
abbrev cX12_timesIn : ByteArray := prog_14_method_79_code
def yX12_timesIn : MethodName := ⟨RX12, "timesIn", "(III)I"⟩
abbrev cX12_ofWord : ByteArray := prog_14_method_80_code
def yX12_ofWord : MethodName := ⟨RX12, "ofWord", "(II)I"⟩
abbrev cX12_word : ByteArray := prog_14_method_81_code
def yX12_word : MethodName := ⟨RX12, "word", "(III)I"⟩
abbrev cX12_dated : ByteArray := prog_14_method_82_code
def yX12_dated : MethodName := ⟨RX12, "dated", "(II)I"⟩
abbrev cX12_shared : ByteArray := prog_14_method_83_code
def yX12_shared : MethodName := ⟨RX12, "shared", "(IIII)I"⟩
abbrev cX12_common : ByteArray := prog_14_method_84_code
def yX12_common : MethodName := ⟨RX12, "common", "(IIIII)I"⟩
abbrev cX12_askedMany : ByteArray := prog_14_method_85_code
def yX12_askedMany : MethodName := ⟨RX12, "askedMany", "()I"⟩
abbrev cX12_ofAsking : ByteArray := prog_14_method_86_code
def yX12_ofAsking : MethodName := ⟨RX12, "ofAsking", "(II)I"⟩
abbrev cX12_hasAsking : ByteArray := prog_14_method_87_code
def yX12_hasAsking : MethodName := ⟨RX12, "hasAsking", "(I)Z"⟩
abbrev cX12_wordsOf : ByteArray := prog_14_method_88_code
def yX12_wordsOf : MethodName := ⟨RX12, "wordsOf", "(I)I"⟩
abbrev cX12_question : ByteArray := prog_14_method_89_code
def yX12_question : MethodName := ⟨RX12, "question", "(III)I"⟩
abbrev cX12_beginsAt : ByteArray := prog_14_method_90_code
def yX12_beginsAt : MethodName := ⟨RX12, "beginsAt", "(IIII)Z"⟩
abbrev cX12_timesOf : ByteArray := prog_14_method_91_code
def yX12_timesOf : MethodName := ⟨RX12, "timesOf", "(III)I"⟩
abbrev cX12_areNear : ByteArray := prog_14_method_92_code
def yX12_areNear : MethodName := ⟨RX12, "areNear", "(III)Z"⟩
abbrev cX12_holdsBy : ByteArray := prog_14_method_93_code
def yX12_holdsBy : MethodName := ⟨RX12, "holdsBy", "(III)Z"⟩
abbrev cX12_layHeld : ByteArray := prog_14_method_94_code
def yX12_layHeld : MethodName := ⟨RX12, "layHeld", "(II)Z"⟩
abbrev cX12_isAsking : ByteArray := prog_14_method_95_code
def yX12_isAsking : MethodName := ⟨RX12, "isAsking", "(I)Z"⟩
abbrev cX12_holds : ByteArray := prog_14_method_96_code
def yX12_holds : MethodName := ⟨RX12, "holds", "(IIIII)I"⟩
abbrev cX12_spans : ByteArray := prog_14_method_97_code
def yX12_spans : MethodName := ⟨RX12, "spans", "(IIIIIZ)I"⟩
abbrev cX12_times : ByteArray := prog_14_method_98_code
def yX12_times : MethodName := ⟨RX12, "times", "(IIIII)I"⟩
abbrev cX12_docsBy : ByteArray := prog_14_method_99_code
def yX12_docsBy : MethodName := ⟨RX12, "docsBy", "(IZ)I"⟩
abbrev cX12_asOf : ByteArray := prog_14_method_100_code
def yX12_asOf : MethodName := ⟨RX12, "asOf", "(II)I"⟩
abbrev cX12_changes : ByteArray := prog_14_method_101_code
def yX12_changes : MethodName := ⟨RX12, "changes", "(II)I"⟩
abbrev cX12_versionsBy : ByteArray := prog_14_method_102_code
def yX12_versionsBy : MethodName := ⟨RX12, "versionsBy", "(I)I"⟩
abbrev cX12_rankOf : ByteArray := prog_14_method_103_code
def yX12_rankOf : MethodName := ⟨RX12, "rankOf", "(II)I"⟩
abbrev cX12_rank : ByteArray := prog_14_method_104_code
def yX12_rank : MethodName := ⟨RX12, "rank", "(II)I"⟩
abbrev cX12_found : ByteArray := prog_14_method_105_code
def yX12_found : MethodName := ⟨RX12, "found", "(IIII)I"⟩
abbrev cX12_isWithin : ByteArray := prog_14_method_106_code
def yX12_isWithin : MethodName := ⟨RX12, "isWithin", "(II)Z"⟩
abbrev cX12_bestAsking : ByteArray := prog_14_method_107_code
def yX12_bestAsking : MethodName := ⟨RX12, "bestAsking", "()I"⟩
abbrev cX12_samePairs : ByteArray := prog_14_method_108_code
def yX12_samePairs : MethodName := ⟨RX12, "samePairs", "()I"⟩
abbrev cX12_best : ByteArray := prog_14_method_109_code
def yX12_best : MethodName := ⟨RX12, "best", "(III)I"⟩
abbrev cX12_implies : ByteArray := prog_14_method_110_code
def yX12_implies : MethodName := ⟨RX12, "implies", "(IIII)I"⟩
abbrev cX12_facts : ByteArray := prog_14_method_111_code
def yX12_facts : MethodName := ⟨RX12, "facts", "()I"⟩
abbrev cX12_factOf : ByteArray := prog_14_method_112_code
def yX12_factOf : MethodName := ⟨RX12, "factOf", "(II)I"⟩
abbrev cX12_hasHunt : ByteArray := prog_14_method_113_code
def yX12_hasHunt : MethodName := ⟨RX12, "hasHunt", "(I)Z"⟩
abbrev cX12_fact : ByteArray := prog_14_method_114_code
def yX12_fact : MethodName := ⟨RX12, "fact", "(III)I"⟩
abbrev cX12_isSo : ByteArray := prog_14_method_115_code
def yX12_isSo : MethodName := ⟨RX12, "isSo", "(I)Z"⟩
abbrev cX12_noteFit : ByteArray := prog_14_method_116_code
def yX12_noteFit : MethodName := ⟨RX12, "noteFit", "(II)V"⟩
abbrev cX12_findWords : ByteArray := prog_14_method_117_code
def yX12_findWords : MethodName := ⟨RX12, "findWords", "(I)V"⟩
abbrev cX12_sureLetter : ByteArray := prog_14_method_118_code
def yX12_sureLetter : MethodName := ⟨RX12, "sureLetter", "()I"⟩
abbrev cX12_askWhere : ByteArray := prog_14_method_119_code
def yX12_askWhere : MethodName := ⟨RX12, "askWhere", "()I"⟩
abbrev cX12_fits : ByteArray := prog_14_method_120_code
def yX12_fits : MethodName := ⟨RX12, "fits", "(III)I"⟩
abbrev cX12_draw : ByteArray := prog_14_method_121_code
def yX12_draw : MethodName := ⟨RX12, "draw", "(I)I"⟩
abbrev cX12_firstToken : ByteArray := prog_14_method_122_code
def yX12_firstToken : MethodName := ⟨RX12, "firstToken", "(I)I"⟩
abbrev cX12_makes : ByteArray := prog_14_method_123_code
def yX12_makes : MethodName := ⟨RX12, "makes", "(I)V"⟩
abbrev cX12_drawChange : ByteArray := prog_14_method_124_code
def yX12_drawChange : MethodName := ⟨RX12, "drawChange", "()V"⟩
abbrev cX12_tokensOf : ByteArray := prog_14_method_125_code
def yX12_tokensOf : MethodName := ⟨RX12, "tokensOf", "(I)I"⟩
abbrev cX12_drawn : ByteArray := prog_14_method_126_code
def yX12_drawn : MethodName := ⟨RX12, "drawn", "(IIIII)I"⟩
abbrev cX12_count : ByteArray := prog_14_method_127_code
def yX12_count : MethodName := ⟨RX12, "count", "(I)I"⟩
abbrev cX12_image : ByteArray := prog_14_method_128_code
def yX12_image : MethodName := ⟨RX12, "image", "(I)Z"⟩
abbrev cX12_again : ByteArray := prog_14_method_129_code
def yX12_again : MethodName := ⟨RX12, "again", "(I)Z"⟩
def RJ6 : String := "java/lang/Integer"
def TJ6 : u_T := fun k => match k with
  | _ => ("", "", "", false)
def tyJ6 : Nat → FieldType := fun k => match k with
  | _ => .int
theorem nmJ6 : ∀ a, a < 0 → ∀ b, b < 0 → a ≠ b → (TJ6 a).2.1 ≠ (TJ6 b).2.1 := by decide +kernel
theorem tyJ6_ok : ∀ k, k < 0 → parseFieldDescriptor (TJ6 k).2.2.1 = some (tyJ6 k) := by decide +kernel
abbrev cJ6_bitCount_0f7a4 : ByteArray := prog_15_method_49_code
def yJ6_bitCount_0f7a4 : MethodName := ⟨RJ6, "bitCount", "(I)I"⟩
def RJ13 : String := "java/lang/Long"
def TJ13 : u_T := fun k => match k with
  | _ => ("", "", "", false)
def tyJ13 : Nat → FieldType := fun k => match k with
  | _ => .int
theorem nmJ13 : ∀ a, a < 0 → ∀ b, b < 0 → a ≠ b → (TJ13 a).2.1 ≠ (TJ13 b).2.1 := by decide +kernel
theorem tyJ13_ok : ∀ k, k < 0 → parseFieldDescriptor (TJ13 k).2.2.1 = some (tyJ13 k) := by decide +kernel
abbrev cJ13_bitCount_95d88 : ByteArray := prog_16_method_50_code
def yJ13_bitCount_95d88 : MethodName := ⟨RJ13, "bitCount", "(J)I"⟩
def RJ9 : String := "java/lang/Math"
def TJ9 : u_T := fun k => match k with
  | _ => ("", "", "", false)
def tyJ9 : Nat → FieldType := fun k => match k with
  | _ => .int
theorem nmJ9 : ∀ a, a < 0 → ∀ b, b < 0 → a ≠ b → (TJ9 a).2.1 ≠ (TJ9 b).2.1 := by decide +kernel
theorem tyJ9_ok : ∀ k, k < 0 → parseFieldDescriptor (TJ9 k).2.2.1 = some (tyJ9 k) := by decide +kernel
abbrev cJ9_abs_0f7a4 : ByteArray := prog_17_method_59_code
def yJ9_abs_0f7a4 : MethodName := ⟨RJ9, "abs", "(I)I"⟩
abbrev cJ9_max_7cf53 : ByteArray := prog_17_method_65_code
def yJ9_max_7cf53 : MethodName := ⟨RJ9, "max", "(II)I"⟩
abbrev cJ9_min_7cf53 : ByteArray := prog_17_method_69_code
def yJ9_min_7cf53 : MethodName := ⟨RJ9, "min", "(II)I"⟩
def RJ0 : String := "java/lang/String"
def TJ0 : u_T := fun k => match k with
  | _ => ("", "", "", false)
def tyJ0 : Nat → FieldType := fun k => match k with
  | _ => .int
theorem nmJ0 : ∀ a, a < 0 → ∀ b, b < 0 → a ≠ b → (TJ0 a).2.1 ≠ (TJ0 b).2.1 := by decide +kernel
theorem tyJ0_ok : ∀ k, k < 0 → parseFieldDescriptor (TJ0 k).2.2.1 = some (tyJ0 k) := by decide +kernel
abbrev cJ0_length_8abf5 : ByteArray := prog_18_method_54_code
def yJ0_length_8abf5 : MethodName := ⟨RJ0, "length", "()I"⟩
abbrev cJ0_charAt_5068e : ByteArray := prog_18_method_56_code
def yJ0_charAt_5068e : MethodName := ⟨RJ0, "charAt", "(I)C"⟩
abbrev cJ0_coder_7d493 : ByteArray := prog_18_method_152_code
def yJ0_coder_7d493 : MethodName := ⟨RJ0, "coder", "()B"⟩
abbrev cJ0_isLatin1_aae02 : ByteArray := prog_18_method_154_code
def yJ0_isLatin1_aae02 : MethodName := ⟨RJ0, "isLatin1", "()Z"⟩
abbrev cJ0_checkIndex_df160 : ByteArray := prog_18_method_155_code
def yJ0_checkIndex_df160 : MethodName := ⟨RJ0, "checkIndex", "(II)V"⟩
def RJ1 : String := "java/lang/StringLatin1"
def TJ1 : u_T := fun k => match k with
  | _ => ("", "", "", false)
def tyJ1 : Nat → FieldType := fun k => match k with
  | _ => .int
theorem nmJ1 : ∀ a, a < 0 → ∀ b, b < 0 → a ≠ b → (TJ1 a).2.1 ≠ (TJ1 b).2.1 := by decide +kernel
theorem tyJ1_ok : ∀ k, k < 0 → parseFieldDescriptor (TJ1 k).2.2.1 = some (tyJ1 k) := by decide +kernel
abbrev cJ1_charAt_3b067 : ByteArray := prog_19_method_2_code
def yJ1_charAt_3b067 : MethodName := ⟨RJ1, "charAt", "([BI)C"⟩
def RJ2 : String := "java/lang/StringUTF16"
def TJ2 : u_T := fun k => match k with
  | _ => ("", "", "", false)
def tyJ2 : Nat → FieldType := fun k => match k with
  | _ => .int
theorem nmJ2 : ∀ a, a < 0 → ∀ b, b < 0 → a ≠ b → (TJ2 a).2.1 ≠ (TJ2 b).2.1 := by decide +kernel
theorem tyJ2_ok : ∀ k, k < 0 → parseFieldDescriptor (TJ2 k).2.2.1 = some (tyJ2 k) := by decide +kernel
abbrev cJ2_getChar_3b067 : ByteArray := prog_20_method_5_code
def yJ2_getChar_3b067 : MethodName := ⟨RJ2, "getChar", "([BI)C"⟩
abbrev cJ2_length_9d52b : ByteArray := prog_20_method_6_code
def yJ2_length_9d52b : MethodName := ⟨RJ2, "length", "([B)I"⟩
abbrev cJ2_charAt_3b067 : ByteArray := prog_20_method_83_code
def yJ2_charAt_3b067 : MethodName := ⟨RJ2, "charAt", "([BI)C"⟩
abbrev cJ2_checkIndex_2214a : ByteArray := prog_20_method_91_code
def yJ2_checkIndex_2214a : MethodName := ⟨RJ2, "checkIndex", "(I[B)V"⟩
def RJ10 : String := "java/lang/System"
def TJ10 : u_T := fun k => match k with
  | _ => ("", "", "", false)
def tyJ10 : Nat → FieldType := fun k => match k with
  | _ => .int
theorem nmJ10 : ∀ a, a < 0 → ∀ b, b < 0 → a ≠ b → (TJ10 a).2.1 ≠ (TJ10 b).2.1 := by decide +kernel
theorem tyJ10_ok : ∀ k, k < 0 → parseFieldDescriptor (TJ10 k).2.2.1 = some (tyJ10 k) := by decide +kernel
def RJ3 : String := "jdk/internal/util/Preconditions"
def TJ3 : u_T := fun k => match k with
  | _ => ("", "", "", false)
def tyJ3 : Nat → FieldType := fun k => match k with
  | _ => .int
theorem nmJ3 : ∀ a, a < 0 → ∀ b, b < 0 → a ≠ b → (TJ3 a).2.1 ≠ (TJ3 b).2.1 := by decide +kernel
theorem tyJ3_ok : ∀ k, k < 0 → parseFieldDescriptor (TJ3 k).2.2.1 = some (tyJ3 k) := by decide +kernel
abbrev cJ3_checkIndex_8e157 : ByteArray := prog_22_method_11_code
def yJ3_checkIndex_8e157 : MethodName := ⟨RJ3, "checkIndex", "(IILjava/util/function/BiFunction;)I"⟩
def RL : String := "VersionSearchLaw"
abbrev cL_law : ByteArray := code
def yL_law : MethodName := ⟨RL, "law", "([I)Z"⟩
abbrev vwCl : List vw_C := [(RX0, TX0, 12), (RX1, TX1, 3), (RX2, TX2, 1), (RX3, TX3, 2), (RX4, TX4, 9), (RX6, TX6, 5), (RX7, TX7, 6), (RX8, TX8, 1), (RX9, TX9, 7), (RX10, TX10, 5), (RX11, TX11, 6), (RX12, TX12, 37)]
