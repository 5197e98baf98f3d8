-- ===== PART A: goes FIRST, ahead of the names: the tables' words, and 'selects' of the private methods out of them =====
/-- a private method of a class that the tables say can be made, by its rows of tables_1 -/
def lw_okq (q : MethodName × Nat) : Prop := (q.1.cls ≠ "java/lang/invoke/MethodHandle" ∧ q.1.cls ≠ "java/lang/invoke/VarHandle") ∧ Cond.instantiable q.1.cls q.2 ∈ tables_1 ∧ Cond.privateMethod q.1 ∈ tables_1 ∧ Cond.instanceMethod q.1 ∈ tables_1
theorem lw_p0 : lw_okq (⟨"DeedCourt$Ways", "fromLesser", "(I)I"⟩, 2) := ⟨⟨by decide +kernel, by decide +kernel⟩, List.mem_of_getElem? (i := 83) (by decide +kernel), List.mem_of_getElem? (i := 89) (by decide +kernel), List.mem_of_getElem? (i := 90) (by decide +kernel)⟩
theorem lw_p1 : lw_okq (⟨"DeedCourt", "refuse", "(I)I"⟩, 10) := ⟨⟨by decide +kernel, by decide +kernel⟩, List.mem_of_getElem? (i := 23) (by decide +kernel), List.mem_of_getElem? (i := 443) (by decide +kernel), List.mem_of_getElem? (i := 444) (by decide +kernel)⟩
theorem lw_p2 : lw_okq (⟨"DeedCourt$Shelf", "cut", "(J)J"⟩, 4) := ⟨⟨by decide +kernel, by decide +kernel⟩, List.mem_of_getElem? (i := 32) (by decide +kernel), List.mem_of_getElem? (i := 467) (by decide +kernel), List.mem_of_getElem? (i := 468) (by decide +kernel)⟩
theorem lw_p3 : lw_okq (⟨"DeedCourt$Tape", "advance", "()V"⟩, 6) := ⟨⟨by decide +kernel, by decide +kernel⟩, List.mem_of_getElem? (i := 56) (by decide +kernel), List.mem_of_getElem? (i := 573) (by decide +kernel), List.mem_of_getElem? (i := 574) (by decide +kernel)⟩
theorem lw_p4 : lw_okq (⟨"DeedCourt$Tape", "byteAt", "(I)I"⟩, 6) := ⟨⟨by decide +kernel, by decide +kernel⟩, List.mem_of_getElem? (i := 56) (by decide +kernel), List.mem_of_getElem? (i := 577) (by decide +kernel), List.mem_of_getElem? (i := 578) (by decide +kernel)⟩
theorem lw_p5 : lw_okq (⟨"DeedCourt$Tape", "valueHere", "()I"⟩, 6) := ⟨⟨by decide +kernel, by decide +kernel⟩, List.mem_of_getElem? (i := 56) (by decide +kernel), List.mem_of_getElem? (i := 587) (by decide +kernel), List.mem_of_getElem? (i := 588) (by decide +kernel)⟩
theorem lw_p6 : lw_okq (⟨"DeedCourt$Tape", "take", "(II)I"⟩, 6) := ⟨⟨by decide +kernel, by decide +kernel⟩, List.mem_of_getElem? (i := 56) (by decide +kernel), List.mem_of_getElem? (i := 591) (by decide +kernel), List.mem_of_getElem? (i := 592) (by decide +kernel)⟩
theorem lw_p7 : lw_okq (⟨"DeedCourt$Tape", "readSaid", "(LDeedCourt$Deed;)Z"⟩, 6) := ⟨⟨by decide +kernel, by decide +kernel⟩, List.mem_of_getElem? (i := 56) (by decide +kernel), List.mem_of_getElem? (i := 595) (by decide +kernel), List.mem_of_getElem? (i := 596) (by decide +kernel)⟩
theorem lw_p8 : lw_okq (⟨"DeedCourt$Tape", "orderHere", "()I"⟩, 6) := ⟨⟨by decide +kernel, by decide +kernel⟩, List.mem_of_getElem? (i := 56) (by decide +kernel), List.mem_of_getElem? (i := 599) (by decide +kernel), List.mem_of_getElem? (i := 600) (by decide +kernel)⟩
theorem lw_p9 : lw_okq (⟨"DeedCourt$Tape", "spells", "(Ljava/lang/String;)Z"⟩, 6) := ⟨⟨by decide +kernel, by decide +kernel⟩, List.mem_of_getElem? (i := 56) (by decide +kernel), List.mem_of_getElem? (i := 604) (by decide +kernel), List.mem_of_getElem? (i := 605) (by decide +kernel)⟩
theorem lw_p10 : lw_okq (⟨"DeedCourt$Tape", "readOne", "(LDeedCourt$Deed;)Z"⟩, 6) := ⟨⟨by decide +kernel, by decide +kernel⟩, List.mem_of_getElem? (i := 56) (by decide +kernel), List.mem_of_getElem? (i := 659) (by decide +kernel), List.mem_of_getElem? (i := 660) (by decide +kernel)⟩
theorem lw_p11 : lw_okq (⟨"DeedCourt$Tape", "waysHere", "()I"⟩, 6) := ⟨⟨by decide +kernel, by decide +kernel⟩, List.mem_of_getElem? (i := 56) (by decide +kernel), List.mem_of_getElem? (i := 663) (by decide +kernel), List.mem_of_getElem? (i := 664) (by decide +kernel)⟩
theorem lw_p12 : lw_okq (⟨"DeedCourt$Tape", "readSecond", "(LDeedCourt$Deed;I)Z"⟩, 6) := ⟨⟨by decide +kernel, by decide +kernel⟩, List.mem_of_getElem? (i := 56) (by decide +kernel), List.mem_of_getElem? (i := 678) (by decide +kernel), List.mem_of_getElem? (i := 679) (by decide +kernel)⟩
theorem lw_p13 : lw_okq (⟨"DeedCourt$Tape", "readYear", "(LDeedCourt$Deed;)Z"⟩, 6) := ⟨⟨by decide +kernel, by decide +kernel⟩, List.mem_of_getElem? (i := 56) (by decide +kernel), List.mem_of_getElem? (i := 682) (by decide +kernel), List.mem_of_getElem? (i := 683) (by decide +kernel)⟩
theorem lw_p14 : lw_okq (⟨"DeedCourt$Tape", "readWeight", "(LDeedCourt$Deed;)Z"⟩, 6) := ⟨⟨by decide +kernel, by decide +kernel⟩, List.mem_of_getElem? (i := 56) (by decide +kernel), List.mem_of_getElem? (i := 687) (by decide +kernel), List.mem_of_getElem? (i := 688) (by decide +kernel)⟩
theorem lw_p15 : lw_okq (⟨"DeedCourt", "areTwo", "(II)Z"⟩, 10) := ⟨⟨by decide +kernel, by decide +kernel⟩, List.mem_of_getElem? (i := 23) (by decide +kernel), List.mem_of_getElem? (i := 743) (by decide +kernel), List.mem_of_getElem? (i := 744) (by decide +kernel)⟩
def lw_privs_1 : List (MethodName × Nat) := [(⟨"DeedCourt$Ways", "fromLesser", "(I)I"⟩, 2), (⟨"DeedCourt", "refuse", "(I)I"⟩, 10), (⟨"DeedCourt$Shelf", "cut", "(J)J"⟩, 4), (⟨"DeedCourt$Tape", "advance", "()V"⟩, 6), (⟨"DeedCourt$Tape", "byteAt", "(I)I"⟩, 6), (⟨"DeedCourt$Tape", "valueHere", "()I"⟩, 6), (⟨"DeedCourt$Tape", "take", "(II)I"⟩, 6), (⟨"DeedCourt$Tape", "readSaid", "(LDeedCourt$Deed;)Z"⟩, 6), (⟨"DeedCourt$Tape", "orderHere", "()I"⟩, 6), (⟨"DeedCourt$Tape", "spells", "(Ljava/lang/String;)Z"⟩, 6), (⟨"DeedCourt$Tape", "readOne", "(LDeedCourt$Deed;)Z"⟩, 6), (⟨"DeedCourt$Tape", "waysHere", "()I"⟩, 6), (⟨"DeedCourt$Tape", "readSecond", "(LDeedCourt$Deed;I)Z"⟩, 6), (⟨"DeedCourt$Tape", "readYear", "(LDeedCourt$Deed;)Z"⟩, 6), (⟨"DeedCourt$Tape", "readWeight", "(LDeedCourt$Deed;)Z"⟩, 6), (⟨"DeedCourt", "areTwo", "(II)Z"⟩, 10)]
theorem lw_r1 : ∀ q ∈ lw_privs_1, lw_okq q := List.forall_mem_cons.mpr ⟨lw_p0, List.forall_mem_cons.mpr ⟨lw_p1, List.forall_mem_cons.mpr ⟨lw_p2, List.forall_mem_cons.mpr ⟨lw_p3, List.forall_mem_cons.mpr ⟨lw_p4, List.forall_mem_cons.mpr ⟨lw_p5, List.forall_mem_cons.mpr ⟨lw_p6, List.forall_mem_cons.mpr ⟨lw_p7, List.forall_mem_cons.mpr ⟨lw_p8, List.forall_mem_cons.mpr ⟨lw_p9, List.forall_mem_cons.mpr ⟨lw_p10, List.forall_mem_cons.mpr ⟨lw_p11, List.forall_mem_cons.mpr ⟨lw_p12, List.forall_mem_cons.mpr ⟨lw_p13, List.forall_mem_cons.mpr ⟨lw_p14, List.forall_mem_cons.mpr ⟨lw_p15, fun _ h => absurd h List.not_mem_nil⟩⟩⟩⟩⟩⟩⟩⟩⟩⟩⟩⟩⟩⟩⟩⟩
theorem lw_p16 : lw_okq (⟨"DeedCourt$Land", "drawArrows", "(II)V"⟩, 10) := ⟨⟨by decide +kernel, by decide +kernel⟩, List.mem_of_getElem? (i := 111) (by decide +kernel), List.mem_of_getElem? (i := 808) (by decide +kernel), List.mem_of_getElem? (i := 809) (by decide +kernel)⟩
theorem lw_p17 : lw_okq (⟨"DeedCourt$Land", "ringFrom", "(I)I"⟩, 10) := ⟨⟨by decide +kernel, by decide +kernel⟩, List.mem_of_getElem? (i := 111) (by decide +kernel), List.mem_of_getElem? (i := 812) (by decide +kernel), List.mem_of_getElem? (i := 813) (by decide +kernel)⟩
theorem lw_p18 : lw_okq (⟨"DeedCourt$Search", "goAhead", "()V"⟩, 9) := ⟨⟨by decide +kernel, by decide +kernel⟩, List.mem_of_getElem? (i := 246) (by decide +kernel), List.mem_of_getElem? (i := 830) (by decide +kernel), List.mem_of_getElem? (i := 831) (by decide +kernel)⟩
theorem lw_p19 : lw_okq (⟨"DeedCourt$Search", "goBack", "()V"⟩, 9) := ⟨⟨by decide +kernel, by decide +kernel⟩, List.mem_of_getElem? (i := 246) (by decide +kernel), List.mem_of_getElem? (i := 834) (by decide +kernel), List.mem_of_getElem? (i := 835) (by decide +kernel)⟩
theorem lw_p20 : lw_okq (⟨"DeedCourt$Search", "seeWhetherSpent", "()V"⟩, 9) := ⟨⟨by decide +kernel, by decide +kernel⟩, List.mem_of_getElem? (i := 246) (by decide +kernel), List.mem_of_getElem? (i := 842) (by decide +kernel), List.mem_of_getElem? (i := 843) (by decide +kernel)⟩
theorem lw_p21 : lw_okq (⟨"DeedCourt", "searched", "(I)I"⟩, 10) := ⟨⟨by decide +kernel, by decide +kernel⟩, List.mem_of_getElem? (i := 23) (by decide +kernel), List.mem_of_getElem? (i := 850) (by decide +kernel), List.mem_of_getElem? (i := 851) (by decide +kernel)⟩
theorem lw_p22 : lw_okq (⟨"DeedCourt", "possible", "(III)I"⟩, 10) := ⟨⟨by decide +kernel, by decide +kernel⟩, List.mem_of_getElem? (i := 23) (by decide +kernel), List.mem_of_getElem? (i := 880) (by decide +kernel), List.mem_of_getElem? (i := 881) (by decide +kernel)⟩
theorem lw_p23 : lw_okq (⟨"DeedCourt$Quarrels", "list", "(I)V"⟩, 7) := ⟨⟨by decide +kernel, by decide +kernel⟩, List.mem_of_getElem? (i := 373) (by decide +kernel), List.mem_of_getElem? (i := 899) (by decide +kernel), List.mem_of_getElem? (i := 900) (by decide +kernel)⟩
theorem lw_p24 : lw_okq (⟨"DeedCourt$Quarrels", "isPartOfFine", "(I)Z"⟩, 7) := ⟨⟨by decide +kernel, by decide +kernel⟩, List.mem_of_getElem? (i := 373) (by decide +kernel), List.mem_of_getElem? (i := 903) (by decide +kernel), List.mem_of_getElem? (i := 904) (by decide +kernel)⟩
theorem lw_p25 : lw_okq (⟨"DeedCourt$Quarrels", "deedsOf", "(I)I"⟩, 7) := ⟨⟨by decide +kernel, by decide +kernel⟩, List.mem_of_getElem? (i := 373) (by decide +kernel), List.mem_of_getElem? (i := 907) (by decide +kernel), List.mem_of_getElem? (i := 908) (by decide +kernel)⟩
theorem lw_p26 : lw_okq (⟨"DeedCourt$Quarrels", "findQuarrel", "()V"⟩, 7) := ⟨⟨by decide +kernel, by decide +kernel⟩, List.mem_of_getElem? (i := 373) (by decide +kernel), List.mem_of_getElem? (i := 912) (by decide +kernel), List.mem_of_getElem? (i := 913) (by decide +kernel)⟩
theorem lw_p27 : lw_okq (⟨"DeedCourt$Quarrels", "findDoubt", "(LDeedCourt$Land;)V"⟩, 7) := ⟨⟨by decide +kernel, by decide +kernel⟩, List.mem_of_getElem? (i := 373) (by decide +kernel), List.mem_of_getElem? (i := 916) (by decide +kernel), List.mem_of_getElem? (i := 917) (by decide +kernel)⟩
theorem lw_p28 : lw_okq (⟨"DeedCourt$Quarrels", "sumOf", "(LDeedCourt$Land;I)I"⟩, 7) := ⟨⟨by decide +kernel, by decide +kernel⟩, List.mem_of_getElem? (i := 373) (by decide +kernel), List.mem_of_getElem? (i := 920) (by decide +kernel), List.mem_of_getElem? (i := 921) (by decide +kernel)⟩
theorem lw_p29 : lw_okq (⟨"DeedCourt", "tallyTellings", "(I)Z"⟩, 10) := ⟨⟨by decide +kernel, by decide +kernel⟩, List.mem_of_getElem? (i := 23) (by decide +kernel), List.mem_of_getElem? (i := 949) (by decide +kernel), List.mem_of_getElem? (i := 950) (by decide +kernel)⟩
theorem lw_p30 : lw_okq (⟨"DeedCourt", "bestPair", "()I"⟩, 10) := ⟨⟨by decide +kernel, by decide +kernel⟩, List.mem_of_getElem? (i := 23) (by decide +kernel), List.mem_of_getElem? (i := 953) (by decide +kernel), List.mem_of_getElem? (i := 954) (by decide +kernel)⟩
theorem lw_p31 : lw_okq (⟨"DeedCourt", "greatestOf", "(I)I"⟩, 10) := ⟨⟨by decide +kernel, by decide +kernel⟩, List.mem_of_getElem? (i := 23) (by decide +kernel), List.mem_of_getElem? (i := 957) (by decide +kernel), List.mem_of_getElem? (i := 958) (by decide +kernel)⟩
def lw_privs_2 : List (MethodName × Nat) := [(⟨"DeedCourt$Land", "drawArrows", "(II)V"⟩, 10), (⟨"DeedCourt$Land", "ringFrom", "(I)I"⟩, 10), (⟨"DeedCourt$Search", "goAhead", "()V"⟩, 9), (⟨"DeedCourt$Search", "goBack", "()V"⟩, 9), (⟨"DeedCourt$Search", "seeWhetherSpent", "()V"⟩, 9), (⟨"DeedCourt", "searched", "(I)I"⟩, 10), (⟨"DeedCourt", "possible", "(III)I"⟩, 10), (⟨"DeedCourt$Quarrels", "list", "(I)V"⟩, 7), (⟨"DeedCourt$Quarrels", "isPartOfFine", "(I)Z"⟩, 7), (⟨"DeedCourt$Quarrels", "deedsOf", "(I)I"⟩, 7), (⟨"DeedCourt$Quarrels", "findQuarrel", "()V"⟩, 7), (⟨"DeedCourt$Quarrels", "findDoubt", "(LDeedCourt$Land;)V"⟩, 7), (⟨"DeedCourt$Quarrels", "sumOf", "(LDeedCourt$Land;I)I"⟩, 7), (⟨"DeedCourt", "tallyTellings", "(I)Z"⟩, 10), (⟨"DeedCourt", "bestPair", "()I"⟩, 10), (⟨"DeedCourt", "greatestOf", "(I)I"⟩, 10)]
theorem lw_r2 : ∀ q ∈ lw_privs_2, lw_okq q := List.forall_mem_cons.mpr ⟨lw_p16, List.forall_mem_cons.mpr ⟨lw_p17, List.forall_mem_cons.mpr ⟨lw_p18, List.forall_mem_cons.mpr ⟨lw_p19, List.forall_mem_cons.mpr ⟨lw_p20, List.forall_mem_cons.mpr ⟨lw_p21, List.forall_mem_cons.mpr ⟨lw_p22, List.forall_mem_cons.mpr ⟨lw_p23, List.forall_mem_cons.mpr ⟨lw_p24, List.forall_mem_cons.mpr ⟨lw_p25, List.forall_mem_cons.mpr ⟨lw_p26, List.forall_mem_cons.mpr ⟨lw_p27, List.forall_mem_cons.mpr ⟨lw_p28, List.forall_mem_cons.mpr ⟨lw_p29, List.forall_mem_cons.mpr ⟨lw_p30, List.forall_mem_cons.mpr ⟨lw_p31, fun _ h => absurd h List.not_mem_nil⟩⟩⟩⟩⟩⟩⟩⟩⟩⟩⟩⟩⟩⟩⟩⟩
theorem lw_p32 : lw_okq (⟨"DeedCourt$Plan", "addCell", "(I)V"⟩, 3) := ⟨⟨by decide +kernel, by decide +kernel⟩, List.mem_of_getElem? (i := 212) (by decide +kernel), List.mem_of_getElem? (i := 999) (by decide +kernel), List.mem_of_getElem? (i := 1000) (by decide +kernel)⟩
theorem lw_p33 : lw_okq (⟨"DeedCourt$Plan", "layPair", "(LDeedCourt$Sets;II)V"⟩, 3) := ⟨⟨by decide +kernel, by decide +kernel⟩, List.mem_of_getElem? (i := 212) (by decide +kernel), List.mem_of_getElem? (i := 1005) (by decide +kernel), List.mem_of_getElem? (i := 1006) (by decide +kernel)⟩
theorem lw_p34 : lw_okq (⟨"DeedCourt$Plan", "addMates", "(II)V"⟩, 3) := ⟨⟨by decide +kernel, by decide +kernel⟩, List.mem_of_getElem? (i := 212) (by decide +kernel), List.mem_of_getElem? (i := 1013) (by decide +kernel), List.mem_of_getElem? (i := 1014) (by decide +kernel)⟩
theorem lw_p35 : lw_okq (⟨"DeedCourt$Plan", "isIn", "(II)Z"⟩, 3) := ⟨⟨by decide +kernel, by decide +kernel⟩, List.mem_of_getElem? (i := 212) (by decide +kernel), List.mem_of_getElem? (i := 1037) (by decide +kernel), List.mem_of_getElem? (i := 1038) (by decide +kernel)⟩
theorem lw_p36 : lw_okq (⟨"DeedCourt$Plan", "hasNext", "(IIZ)Z"⟩, 3) := ⟨⟨by decide +kernel, by decide +kernel⟩, List.mem_of_getElem? (i := 212) (by decide +kernel), List.mem_of_getElem? (i := 1041) (by decide +kernel), List.mem_of_getElem? (i := 1042) (by decide +kernel)⟩
theorem lw_p37 : lw_okq (⟨"DeedCourt$Board", "drawBox", "()J"⟩, 2) := ⟨⟨by decide +kernel, by decide +kernel⟩, List.mem_of_getElem? (i := 231) (by decide +kernel), List.mem_of_getElem? (i := 1134) (by decide +kernel), List.mem_of_getElem? (i := 1135) (by decide +kernel)⟩
theorem lw_p38 : lw_okq (⟨"DeedCourt$Board", "drawBelow", "(I)I"⟩, 2) := ⟨⟨by decide +kernel, by decide +kernel⟩, List.mem_of_getElem? (i := 231) (by decide +kernel), List.mem_of_getElem? (i := 1138) (by decide +kernel), List.mem_of_getElem? (i := 1139) (by decide +kernel)⟩
theorem lw_p39 : lw_okq (⟨"DeedCourt", "heldShelves", "()I"⟩, 10) := ⟨⟨by decide +kernel, by decide +kernel⟩, List.mem_of_getElem? (i := 23) (by decide +kernel), List.mem_of_getElem? (i := 1215) (by decide +kernel), List.mem_of_getElem? (i := 1216) (by decide +kernel)⟩
theorem lw_p40 : lw_okq (⟨"DeedCourtModel", "refuse", "(I)I"⟩, 67) := ⟨⟨by decide +kernel, by decide +kernel⟩, List.mem_of_getElem? (i := 1219) (by decide +kernel), List.mem_of_getElem? (i := 1458) (by decide +kernel), List.mem_of_getElem? (i := 1459) (by decide +kernel)⟩
theorem lw_p41 : lw_okq (⟨"DeedCourtModel", "isField", "(I)Z"⟩, 67) := ⟨⟨by decide +kernel, by decide +kernel⟩, List.mem_of_getElem? (i := 1219) (by decide +kernel), List.mem_of_getElem? (i := 1485) (by decide +kernel), List.mem_of_getElem? (i := 1486) (by decide +kernel)⟩
theorem lw_p42 : lw_okq (⟨"DeedCourtModel", "newField", "(II)V"⟩, 67) := ⟨⟨by decide +kernel, by decide +kernel⟩, List.mem_of_getElem? (i := 1219) (by decide +kernel), List.mem_of_getElem? (i := 1520) (by decide +kernel), List.mem_of_getElem? (i := 1521) (by decide +kernel)⟩
theorem lw_p43 : lw_okq (⟨"DeedCourtModel", "read", "(I)Z"⟩, 67) := ⟨⟨by decide +kernel, by decide +kernel⟩, List.mem_of_getElem? (i := 1219) (by decide +kernel), List.mem_of_getElem? (i := 1544) (by decide +kernel), List.mem_of_getElem? (i := 1545) (by decide +kernel)⟩
theorem lw_p44 : lw_okq (⟨"DeedCourtModel", "look", "()V"⟩, 67) := ⟨⟨by decide +kernel, by decide +kernel⟩, List.mem_of_getElem? (i := 1219) (by decide +kernel), List.mem_of_getElem? (i := 1548) (by decide +kernel), List.mem_of_getElem? (i := 1549) (by decide +kernel)⟩
theorem lw_p45 : lw_okq (⟨"DeedCourtModel", "number", "(II)Z"⟩, 67) := ⟨⟨by decide +kernel, by decide +kernel⟩, List.mem_of_getElem? (i := 1219) (by decide +kernel), List.mem_of_getElem? (i := 1564) (by decide +kernel), List.mem_of_getElem? (i := 1565) (by decide +kernel)⟩
theorem lw_p46 : lw_okq (⟨"DeedCourtModel", "wrong", "()Z"⟩, 67) := ⟨⟨by decide +kernel, by decide +kernel⟩, List.mem_of_getElem? (i := 1219) (by decide +kernel), List.mem_of_getElem? (i := 1568) (by decide +kernel), List.mem_of_getElem? (i := 1569) (by decide +kernel)⟩
theorem lw_p47 : lw_okq (⟨"DeedCourtModel", "isWord", "(Ljava/lang/String;)Z"⟩, 67) := ⟨⟨by decide +kernel, by decide +kernel⟩, List.mem_of_getElem? (i := 1219) (by decide +kernel), List.mem_of_getElem? (i := 1572) (by decide +kernel), List.mem_of_getElem? (i := 1573) (by decide +kernel)⟩
def lw_privs_3 : List (MethodName × Nat) := [(⟨"DeedCourt$Plan", "addCell", "(I)V"⟩, 3), (⟨"DeedCourt$Plan", "layPair", "(LDeedCourt$Sets;II)V"⟩, 3), (⟨"DeedCourt$Plan", "addMates", "(II)V"⟩, 3), (⟨"DeedCourt$Plan", "isIn", "(II)Z"⟩, 3), (⟨"DeedCourt$Plan", "hasNext", "(IIZ)Z"⟩, 3), (⟨"DeedCourt$Board", "drawBox", "()J"⟩, 2), (⟨"DeedCourt$Board", "drawBelow", "(I)I"⟩, 2), (⟨"DeedCourt", "heldShelves", "()I"⟩, 10), (⟨"DeedCourtModel", "refuse", "(I)I"⟩, 67), (⟨"DeedCourtModel", "isField", "(I)Z"⟩, 67), (⟨"DeedCourtModel", "newField", "(II)V"⟩, 67), (⟨"DeedCourtModel", "read", "(I)Z"⟩, 67), (⟨"DeedCourtModel", "look", "()V"⟩, 67), (⟨"DeedCourtModel", "number", "(II)Z"⟩, 67), (⟨"DeedCourtModel", "wrong", "()Z"⟩, 67), (⟨"DeedCourtModel", "isWord", "(Ljava/lang/String;)Z"⟩, 67)]
theorem lw_r3 : ∀ q ∈ lw_privs_3, lw_okq q := List.forall_mem_cons.mpr ⟨lw_p32, List.forall_mem_cons.mpr ⟨lw_p33, List.forall_mem_cons.mpr ⟨lw_p34, List.forall_mem_cons.mpr ⟨lw_p35, List.forall_mem_cons.mpr ⟨lw_p36, List.forall_mem_cons.mpr ⟨lw_p37, List.forall_mem_cons.mpr ⟨lw_p38, List.forall_mem_cons.mpr ⟨lw_p39, List.forall_mem_cons.mpr ⟨lw_p40, List.forall_mem_cons.mpr ⟨lw_p41, List.forall_mem_cons.mpr ⟨lw_p42, List.forall_mem_cons.mpr ⟨lw_p43, List.forall_mem_cons.mpr ⟨lw_p44, List.forall_mem_cons.mpr ⟨lw_p45, List.forall_mem_cons.mpr ⟨lw_p46, List.forall_mem_cons.mpr ⟨lw_p47, fun _ h => absurd h List.not_mem_nil⟩⟩⟩⟩⟩⟩⟩⟩⟩⟩⟩⟩⟩⟩⟩⟩
theorem lw_p48 : lw_okq (⟨"DeedCourtModel", "ways", "(I)Z"⟩, 67) := ⟨⟨by decide +kernel, by decide +kernel⟩, List.mem_of_getElem? (i := 1219) (by decide +kernel), List.mem_of_getElem? (i := 1581) (by decide +kernel), List.mem_of_getElem? (i := 1582) (by decide +kernel)⟩
theorem lw_p49 : lw_okq (⟨"DeedCourtModel", "one", "(I)Z"⟩, 67) := ⟨⟨by decide +kernel, by decide +kernel⟩, List.mem_of_getElem? (i := 1219) (by decide +kernel), List.mem_of_getElem? (i := 1586) (by decide +kernel), List.mem_of_getElem? (i := 1587) (by decide +kernel)⟩
theorem lw_p50 : lw_okq (⟨"DeedCourtModel", "isDeed", "(I)Z"⟩, 67) := ⟨⟨by decide +kernel, by decide +kernel⟩, List.mem_of_getElem? (i := 1219) (by decide +kernel), List.mem_of_getElem? (i := 1599) (by decide +kernel), List.mem_of_getElem? (i := 1600) (by decide +kernel)⟩
theorem lw_p51 : lw_okq (⟨"DeedCourtModel", "lets", "(I)I"⟩, 67) := ⟨⟨by decide +kernel, by decide +kernel⟩, List.mem_of_getElem? (i := 1219) (by decide +kernel), List.mem_of_getElem? (i := 1604) (by decide +kernel), List.mem_of_getElem? (i := 1605) (by decide +kernel)⟩
theorem lw_p52 : lw_okq (⟨"DeedCourtModel", "areTwo", "(II)Z"⟩, 67) := ⟨⟨by decide +kernel, by decide +kernel⟩, List.mem_of_getElem? (i := 1219) (by decide +kernel), List.mem_of_getElem? (i := 1652) (by decide +kernel), List.mem_of_getElem? (i := 1653) (by decide +kernel)⟩
theorem lw_p53 : lw_okq (⟨"DeedCourtModel", "makeSets", "([III)V"⟩, 67) := ⟨⟨by decide +kernel, by decide +kernel⟩, List.mem_of_getElem? (i := 1219) (by decide +kernel), List.mem_of_getElem? (i := 1656) (by decide +kernel), List.mem_of_getElem? (i := 1657) (by decide +kernel)⟩
theorem lw_p54 : lw_okq (⟨"DeedCourtModel", "counts", "(II)Z"⟩, 67) := ⟨⟨by decide +kernel, by decide +kernel⟩, List.mem_of_getElem? (i := 1219) (by decide +kernel), List.mem_of_getElem? (i := 1660) (by decide +kernel), List.mem_of_getElem? (i := 1661) (by decide +kernel)⟩
theorem lw_p55 : lw_okq (⟨"DeedCourtModel", "shrinkAll", "([II)Z"⟩, 67) := ⟨⟨by decide +kernel, by decide +kernel⟩, List.mem_of_getElem? (i := 1219) (by decide +kernel), List.mem_of_getElem? (i := 1671) (by decide +kernel), List.mem_of_getElem? (i := 1672) (by decide +kernel)⟩
theorem lw_p56 : lw_okq (⟨"DeedCourtModel", "followsOf", "(II)I"⟩, 67) := ⟨⟨by decide +kernel, by decide +kernel⟩, List.mem_of_getElem? (i := 1219) (by decide +kernel), List.mem_of_getElem? (i := 1675) (by decide +kernel), List.mem_of_getElem? (i := 1676) (by decide +kernel)⟩
theorem lw_p57 : lw_okq (⟨"DeedCourtModel", "canOf", "(II)I"⟩, 67) := ⟨⟨by decide +kernel, by decide +kernel⟩, List.mem_of_getElem? (i := 1219) (by decide +kernel), List.mem_of_getElem? (i := 1690) (by decide +kernel), List.mem_of_getElem? (i := 1691) (by decide +kernel)⟩
theorem lw_p58 : lw_okq (⟨"DeedCourtModel", "hasRing", "(II)Z"⟩, 67) := ⟨⟨by decide +kernel, by decide +kernel⟩, List.mem_of_getElem? (i := 1219) (by decide +kernel), List.mem_of_getElem? (i := 1694) (by decide +kernel), List.mem_of_getElem? (i := 1695) (by decide +kernel)⟩
theorem lw_p59 : lw_okq (⟨"DeedCourtModel", "fewestIn", "(III)I"⟩, 67) := ⟨⟨by decide +kernel, by decide +kernel⟩, List.mem_of_getElem? (i := 1219) (by decide +kernel), List.mem_of_getElem? (i := 1698) (by decide +kernel), List.mem_of_getElem? (i := 1699) (by decide +kernel)⟩
theorem lw_p60 : lw_okq (⟨"DeedCourtModel", "search", "(II)V"⟩, 67) := ⟨⟨by decide +kernel, by decide +kernel⟩, List.mem_of_getElem? (i := 1219) (by decide +kernel), List.mem_of_getElem? (i := 1702) (by decide +kernel), List.mem_of_getElem? (i := 1703) (by decide +kernel)⟩
theorem lw_p61 : lw_okq (⟨"DeedCourtModel", "beginSearch", "(I)V"⟩, 67) := ⟨⟨by decide +kernel, by decide +kernel⟩, List.mem_of_getElem? (i := 1219) (by decide +kernel), List.mem_of_getElem? (i := 1706) (by decide +kernel), List.mem_of_getElem? (i := 1707) (by decide +kernel)⟩
theorem lw_p62 : lw_okq (⟨"DeedCourtModel", "goOn", "()V"⟩, 67) := ⟨⟨by decide +kernel, by decide +kernel⟩, List.mem_of_getElem? (i := 1219) (by decide +kernel), List.mem_of_getElem? (i := 1710) (by decide +kernel), List.mem_of_getElem? (i := 1711) (by decide +kernel)⟩
theorem lw_p63 : lw_okq (⟨"DeedCourtModel", "choose", "()V"⟩, 67) := ⟨⟨by decide +kernel, by decide +kernel⟩, List.mem_of_getElem? (i := 1219) (by decide +kernel), List.mem_of_getElem? (i := 1714) (by decide +kernel), List.mem_of_getElem? (i := 1715) (by decide +kernel)⟩
def lw_privs_4 : List (MethodName × Nat) := [(⟨"DeedCourtModel", "ways", "(I)Z"⟩, 67), (⟨"DeedCourtModel", "one", "(I)Z"⟩, 67), (⟨"DeedCourtModel", "isDeed", "(I)Z"⟩, 67), (⟨"DeedCourtModel", "lets", "(I)I"⟩, 67), (⟨"DeedCourtModel", "areTwo", "(II)Z"⟩, 67), (⟨"DeedCourtModel", "makeSets", "([III)V"⟩, 67), (⟨"DeedCourtModel", "counts", "(II)Z"⟩, 67), (⟨"DeedCourtModel", "shrinkAll", "([II)Z"⟩, 67), (⟨"DeedCourtModel", "followsOf", "(II)I"⟩, 67), (⟨"DeedCourtModel", "canOf", "(II)I"⟩, 67), (⟨"DeedCourtModel", "hasRing", "(II)Z"⟩, 67), (⟨"DeedCourtModel", "fewestIn", "(III)I"⟩, 67), (⟨"DeedCourtModel", "search", "(II)V"⟩, 67), (⟨"DeedCourtModel", "beginSearch", "(I)V"⟩, 67), (⟨"DeedCourtModel", "goOn", "()V"⟩, 67), (⟨"DeedCourtModel", "choose", "()V"⟩, 67)]
theorem lw_r4 : ∀ q ∈ lw_privs_4, lw_okq q := List.forall_mem_cons.mpr ⟨lw_p48, List.forall_mem_cons.mpr ⟨lw_p49, List.forall_mem_cons.mpr ⟨lw_p50, List.forall_mem_cons.mpr ⟨lw_p51, List.forall_mem_cons.mpr ⟨lw_p52, List.forall_mem_cons.mpr ⟨lw_p53, List.forall_mem_cons.mpr ⟨lw_p54, List.forall_mem_cons.mpr ⟨lw_p55, List.forall_mem_cons.mpr ⟨lw_p56, List.forall_mem_cons.mpr ⟨lw_p57, List.forall_mem_cons.mpr ⟨lw_p58, List.forall_mem_cons.mpr ⟨lw_p59, List.forall_mem_cons.mpr ⟨lw_p60, List.forall_mem_cons.mpr ⟨lw_p61, List.forall_mem_cons.mpr ⟨lw_p62, List.forall_mem_cons.mpr ⟨lw_p63, fun _ h => absurd h List.not_mem_nil⟩⟩⟩⟩⟩⟩⟩⟩⟩⟩⟩⟩⟩⟩⟩⟩
theorem lw_p64 : lw_okq (⟨"DeedCourtModel", "nextWay", "()I"⟩, 67) := ⟨⟨by decide +kernel, by decide +kernel⟩, List.mem_of_getElem? (i := 1219) (by decide +kernel), List.mem_of_getElem? (i := 1718) (by decide +kernel), List.mem_of_getElem? (i := 1719) (by decide +kernel)⟩
theorem lw_p65 : lw_okq (⟨"DeedCourtModel", "comeBack", "()Z"⟩, 67) := ⟨⟨by decide +kernel, by decide +kernel⟩, List.mem_of_getElem? (i := 1219) (by decide +kernel), List.mem_of_getElem? (i := 1728) (by decide +kernel), List.mem_of_getElem? (i := 1729) (by decide +kernel)⟩
theorem lw_p66 : lw_okq (⟨"DeedCourtModel", "goBehind", "()V"⟩, 67) := ⟨⟨by decide +kernel, by decide +kernel⟩, List.mem_of_getElem? (i := 1219) (by decide +kernel), List.mem_of_getElem? (i := 1752) (by decide +kernel), List.mem_of_getElem? (i := 1753) (by decide +kernel)⟩
theorem lw_p67 : lw_okq (⟨"DeedCourtModel", "mayOf", "(III)I"⟩, 67) := ⟨⟨by decide +kernel, by decide +kernel⟩, List.mem_of_getElem? (i := 1219) (by decide +kernel), List.mem_of_getElem? (i := 1760) (by decide +kernel), List.mem_of_getElem? (i := 1761) (by decide +kernel)⟩
theorem lw_p68 : lw_okq (⟨"DeedCourtModel", "findQuarrel", "(I)Z"⟩, 67) := ⟨⟨by decide +kernel, by decide +kernel⟩, List.mem_of_getElem? (i := 1219) (by decide +kernel), List.mem_of_getElem? (i := 1772) (by decide +kernel), List.mem_of_getElem? (i := 1773) (by decide +kernel)⟩
theorem lw_p69 : lw_okq (⟨"DeedCourtModel", "findCans", "(I)Z"⟩, 67) := ⟨⟨by decide +kernel, by decide +kernel⟩, List.mem_of_getElem? (i := 1219) (by decide +kernel), List.mem_of_getElem? (i := 1776) (by decide +kernel), List.mem_of_getElem? (i := 1777) (by decide +kernel)⟩
theorem lw_p70 : lw_okq (⟨"DeedCourtModel", "takeDeeds", "(I)Z"⟩, 67) := ⟨⟨by decide +kernel, by decide +kernel⟩, List.mem_of_getElem? (i := 1219) (by decide +kernel), List.mem_of_getElem? (i := 1780) (by decide +kernel), List.mem_of_getElem? (i := 1781) (by decide +kernel)⟩
theorem lw_p71 : lw_okq (⟨"DeedCourtModel", "named", "(I)I"⟩, 67) := ⟨⟨by decide +kernel, by decide +kernel⟩, List.mem_of_getElem? (i := 1219) (by decide +kernel), List.mem_of_getElem? (i := 1784) (by decide +kernel), List.mem_of_getElem? (i := 1785) (by decide +kernel)⟩
theorem lw_p72 : lw_okq (⟨"DeedCourtModel", "findDoubt", "(I)Z"⟩, 67) := ⟨⟨by decide +kernel, by decide +kernel⟩, List.mem_of_getElem? (i := 1219) (by decide +kernel), List.mem_of_getElem? (i := 1796) (by decide +kernel), List.mem_of_getElem? (i := 1797) (by decide +kernel)⟩
theorem lw_p73 : lw_okq (⟨"DeedCourtModel", "weightOf", "(I)I"⟩, 67) := ⟨⟨by decide +kernel, by decide +kernel⟩, List.mem_of_getElem? (i := 1219) (by decide +kernel), List.mem_of_getElem? (i := 1800) (by decide +kernel), List.mem_of_getElem? (i := 1801) (by decide +kernel)⟩
theorem lw_p74 : lw_okq (⟨"DeedCourtModel", "findSettle", "(I)Z"⟩, 67) := ⟨⟨by decide +kernel, by decide +kernel⟩, List.mem_of_getElem? (i := 1219) (by decide +kernel), List.mem_of_getElem? (i := 1821) (by decide +kernel), List.mem_of_getElem? (i := 1822) (by decide +kernel)⟩
theorem lw_p75 : lw_okq (⟨"DeedCourtModel", "up", "(I)I"⟩, 67) := ⟨⟨by decide +kernel, by decide +kernel⟩, List.mem_of_getElem? (i := 1219) (by decide +kernel), List.mem_of_getElem? (i := 1842) (by decide +kernel), List.mem_of_getElem? (i := 1843) (by decide +kernel)⟩
theorem lw_p76 : lw_okq (⟨"DeedCourtModel", "newCell", "(II)V"⟩, 67) := ⟨⟨by decide +kernel, by decide +kernel⟩, List.mem_of_getElem? (i := 1219) (by decide +kernel), List.mem_of_getElem? (i := 1846) (by decide +kernel), List.mem_of_getElem? (i := 1847) (by decide +kernel)⟩
theorem lw_p77 : lw_okq (⟨"DeedCourtModel", "beyond", "(I)I"⟩, 67) := ⟨⟨by decide +kernel, by decide +kernel⟩, List.mem_of_getElem? (i := 1219) (by decide +kernel), List.mem_of_getElem? (i := 1850) (by decide +kernel), List.mem_of_getElem? (i := 1851) (by decide +kernel)⟩
theorem lw_p78 : lw_okq (⟨"DeedCourtModel", "newMates", "(II)V"⟩, 67) := ⟨⟨by decide +kernel, by decide +kernel⟩, List.mem_of_getElem? (i := 1219) (by decide +kernel), List.mem_of_getElem? (i := 1854) (by decide +kernel), List.mem_of_getElem? (i := 1855) (by decide +kernel)⟩
theorem lw_p79 : lw_okq (⟨"DeedCourtModel", "isSo", "(I)Z"⟩, 67) := ⟨⟨by decide +kernel, by decide +kernel⟩, List.mem_of_getElem? (i := 1219) (by decide +kernel), List.mem_of_getElem? (i := 1897) (by decide +kernel), List.mem_of_getElem? (i := 1898) (by decide +kernel)⟩
def lw_privs_5 : List (MethodName × Nat) := [(⟨"DeedCourtModel", "nextWay", "()I"⟩, 67), (⟨"DeedCourtModel", "comeBack", "()Z"⟩, 67), (⟨"DeedCourtModel", "goBehind", "()V"⟩, 67), (⟨"DeedCourtModel", "mayOf", "(III)I"⟩, 67), (⟨"DeedCourtModel", "findQuarrel", "(I)Z"⟩, 67), (⟨"DeedCourtModel", "findCans", "(I)Z"⟩, 67), (⟨"DeedCourtModel", "takeDeeds", "(I)Z"⟩, 67), (⟨"DeedCourtModel", "named", "(I)I"⟩, 67), (⟨"DeedCourtModel", "findDoubt", "(I)Z"⟩, 67), (⟨"DeedCourtModel", "weightOf", "(I)I"⟩, 67), (⟨"DeedCourtModel", "findSettle", "(I)Z"⟩, 67), (⟨"DeedCourtModel", "up", "(I)I"⟩, 67), (⟨"DeedCourtModel", "newCell", "(II)V"⟩, 67), (⟨"DeedCourtModel", "beyond", "(I)I"⟩, 67), (⟨"DeedCourtModel", "newMates", "(II)V"⟩, 67), (⟨"DeedCourtModel", "isSo", "(I)Z"⟩, 67)]
theorem lw_r5 : ∀ q ∈ lw_privs_5, lw_okq q := List.forall_mem_cons.mpr ⟨lw_p64, List.forall_mem_cons.mpr ⟨lw_p65, List.forall_mem_cons.mpr ⟨lw_p66, List.forall_mem_cons.mpr ⟨lw_p67, List.forall_mem_cons.mpr ⟨lw_p68, List.forall_mem_cons.mpr ⟨lw_p69, List.forall_mem_cons.mpr ⟨lw_p70, List.forall_mem_cons.mpr ⟨lw_p71, List.forall_mem_cons.mpr ⟨lw_p72, List.forall_mem_cons.mpr ⟨lw_p73, List.forall_mem_cons.mpr ⟨lw_p74, List.forall_mem_cons.mpr ⟨lw_p75, List.forall_mem_cons.mpr ⟨lw_p76, List.forall_mem_cons.mpr ⟨lw_p77, List.forall_mem_cons.mpr ⟨lw_p78, List.forall_mem_cons.mpr ⟨lw_p79, fun _ h => absurd h List.not_mem_nil⟩⟩⟩⟩⟩⟩⟩⟩⟩⟩⟩⟩⟩⟩⟩⟩
theorem lw_p80 : lw_okq (⟨"DeedCourtModel", "box", "()J"⟩, 67) := ⟨⟨by decide +kernel, by decide +kernel⟩, List.mem_of_getElem? (i := 1219) (by decide +kernel), List.mem_of_getElem? (i := 1918) (by decide +kernel), List.mem_of_getElem? (i := 1919) (by decide +kernel)⟩
theorem lw_p81 : lw_okq (⟨"DeedCourtModel", "below", "(I)I"⟩, 67) := ⟨⟨by decide +kernel, by decide +kernel⟩, List.mem_of_getElem? (i := 1219) (by decide +kernel), List.mem_of_getElem? (i := 1922) (by decide +kernel), List.mem_of_getElem? (i := 1923) (by decide +kernel)⟩
theorem lw_p82 : lw_okq (⟨"DeedCourtModel", "takeFrom", "(LDeedCourtModel;)V"⟩, 67) := ⟨⟨by decide +kernel, by decide +kernel⟩, List.mem_of_getElem? (i := 1219) (by decide +kernel), List.mem_of_getElem? (i := 1952) (by decide +kernel), List.mem_of_getElem? (i := 1953) (by decide +kernel)⟩
theorem lw_p83 : lw_okq (⟨"DeedCourtModel", "takeSearch", "(LDeedCourtModel;)V"⟩, 67) := ⟨⟨by decide +kernel, by decide +kernel⟩, List.mem_of_getElem? (i := 1219) (by decide +kernel), List.mem_of_getElem? (i := 1959) (by decide +kernel), List.mem_of_getElem? (i := 1960) (by decide +kernel)⟩
def lw_privs_6 : List (MethodName × Nat) := [(⟨"DeedCourtModel", "box", "()J"⟩, 67), (⟨"DeedCourtModel", "below", "(I)I"⟩, 67), (⟨"DeedCourtModel", "takeFrom", "(LDeedCourtModel;)V"⟩, 67), (⟨"DeedCourtModel", "takeSearch", "(LDeedCourtModel;)V"⟩, 67)]
theorem lw_r6 : ∀ q ∈ lw_privs_6, lw_okq q := List.forall_mem_cons.mpr ⟨lw_p80, List.forall_mem_cons.mpr ⟨lw_p81, List.forall_mem_cons.mpr ⟨lw_p82, List.forall_mem_cons.mpr ⟨lw_p83, fun _ h => absurd h List.not_mem_nil⟩⟩⟩⟩
def lw_privs : List (MethodName × Nat) := lw_privs_1 ++ (lw_privs_2 ++ (lw_privs_3 ++ (lw_privs_4 ++ (lw_privs_5 ++ (lw_privs_6)))))
def lw_tbl : List Cond := k2_sels lw_privs ++ tables_1
theorem lw_privs_ok : ∀ q ∈ lw_privs, lw_okq q := by
  show ∀ q ∈ lw_privs_1 ++ (lw_privs_2 ++ (lw_privs_3 ++ (lw_privs_4 ++ (lw_privs_5 ++ (lw_privs_6))))), lw_okq q
  exact List.forall_mem_append.mpr ⟨lw_r1, List.forall_mem_append.mpr ⟨lw_r2, List.forall_mem_append.mpr ⟨lw_r3, List.forall_mem_append.mpr ⟨lw_r4, List.forall_mem_append.mpr ⟨lw_r5, lw_r6⟩⟩⟩⟩⟩

def RX0 : String := "DeedCourt$Board"
def TX0 : u_T := fun k => match k with
  | 0 => ("DeedCourt$Board", "seedNow", "I", false)
  | _ => ("DeedCourt$Board", "seen", "[I", true)
def tyX0 : Nat → FieldType := fun k => match k with
  | 0 => .int
  | _ => .array .int
theorem nmX0 : ∀ a, a < 2 → ∀ b, b < 2 → a ≠ b → (TX0 a).2.1 ≠ (TX0 b).2.1 := by decide +kernel
theorem tyX0_ok : ∀ k, k < 2 → parseFieldDescriptor (TX0 k).2.2.1 = some (tyX0 k) := by decide +kernel
abbrev cX0_init : ByteArray := prog_2_method_1_code
def yX0_init : MethodName := ⟨RX0, "<init>", "()V"⟩
abbrev cX0_become : ByteArray := prog_2_method_2_code
def yX0_become : MethodName := ⟨RX0, "become", "(LDeedCourt$Board;)V"⟩
abbrev cX0_drawLand : ByteArray := prog_2_method_3_code
def yX0_drawLand : MethodName := ⟨RX0, "drawLand", "()V"⟩
abbrev cX0_foundWays : ByteArray := prog_2_method_4_code
def yX0_foundWays : MethodName := ⟨RX0, "foundWays", "()I"⟩
abbrev cX0_drawBox : ByteArray := prog_2_method_5_code
def yX0_drawBox : MethodName := ⟨RX0, "drawBox", "()J"⟩
abbrev cX0_drawBelow : ByteArray := prog_2_method_6_code
def yX0_drawBelow : MethodName := ⟨RX0, "drawBelow", "(I)I"⟩
abbrev cX0_box : ByteArray := prog_2_method_7_code
def yX0_box : MethodName := ⟨RX0, "box", "(IIII)J"⟩
abbrev cX0_nextTo : ByteArray := prog_2_method_8_code
def yX0_nextTo : MethodName := ⟨RX0, "nextTo", "(J)J"⟩
abbrev cX0_wayOf : ByteArray := prog_2_method_9_code
def yX0_wayOf : MethodName := ⟨RX0, "wayOf", "(JJ)I"⟩
abbrev cX0_isPiece : ByteArray := prog_2_method_10_code
def yX0_isPiece : MethodName := ⟨RX0, "isPiece", "(J)Z"⟩
abbrev cX0_isDisc : ByteArray := prog_2_method_11_code
def yX0_isDisc : MethodName := ⟨RX0, "isDisc", "(J)Z"⟩
abbrev cX0_isBox : ByteArray := prog_2_method_12_code
def yX0_isBox : MethodName := ⟨RX0, "isBox", "(J)Z"⟩
abbrev cX0_flood : ByteArray := prog_2_method_13_code
def yX0_flood : MethodName := ⟨RX0, "flood", "(JJ)J"⟩
abbrev cX0_rowsOf : ByteArray := prog_2_method_14_code
def yX0_rowsOf : MethodName := ⟨RX0, "rowsOf", "(J)I"⟩
abbrev cX0_columnsOf : ByteArray := prog_2_method_15_code
def yX0_columnsOf : MethodName := ⟨RX0, "columnsOf", "(J)I"⟩
abbrev cX0_least : ByteArray := prog_2_method_16_code
def yX0_least : MethodName := ⟨RX0, "least", "(I)I"⟩
abbrev cX0_greatest : ByteArray := prog_2_method_17_code
def yX0_greatest : MethodName := ⟨RX0, "greatest", "(I)I"⟩
def RX1 : String := "DeedCourt$Deed"
def TX1 : u_T := fun k => match k with
  | 0 => ("DeedCourt$Deed", "first", "I", false)
  | 1 => ("DeedCourt$Deed", "second", "I", false)
  | 2 => ("DeedCourt$Deed", "year", "I", false)
  | 3 => ("DeedCourt$Deed", "weight", "I", false)
  | 4 => ("DeedCourt$Deed", "order", "I", false)
  | 5 => ("DeedCourt$Deed", "said", "I", false)
  | 6 => ("DeedCourt$Deed", "oldWords", "I", false)
  | 7 => ("DeedCourt$Deed", "isNot", "Z", false)
  | _ => ("DeedCourt$Deed", "dropped", "Z", false)
def tyX1 : Nat → FieldType := fun k => match k with
  | 0 => .int
  | 1 => .int
  | 2 => .int
  | 3 => .int
  | 4 => .int
  | 5 => .int
  | 6 => .int
  | 7 => .boolean
  | _ => .boolean
theorem nmX1 : ∀ a, a < 9 → ∀ b, b < 9 → a ≠ b → (TX1 a).2.1 ≠ (TX1 b).2.1 := by decide +kernel
theorem tyX1_ok : ∀ k, k < 9 → parseFieldDescriptor (TX1 k).2.2.1 = some (tyX1 k) := by decide +kernel
abbrev cX1_init : ByteArray := prog_3_method_1_code
def yX1_init : MethodName := ⟨RX1, "<init>", "()V"⟩
abbrev cX1_clear : ByteArray := prog_3_method_2_code
def yX1_clear : MethodName := ⟨RX1, "clear", "()V"⟩
abbrev cX1_become : ByteArray := prog_3_method_3_code
def yX1_become : MethodName := ⟨RX1, "become", "(LDeedCourt$Deed;)V"⟩
abbrev cX1_lets : ByteArray := prog_3_method_4_code
def yX1_lets : MethodName := ⟨RX1, "lets", "([I)I"⟩
def RX2 : String := "DeedCourt$Field"
def TX2 : u_T := fun k => match k with
  | 0 => ("DeedCourt$Field", "kind", "I", false)
  | 1 => ("DeedCourt$Field", "from", "I", false)
  | 2 => ("DeedCourt$Field", "parted", "I", false)
  | 3 => ("DeedCourt$Field", "firstPart", "I", false)
  | _ => ("DeedCourt$Field", "ground", "J", false)
def tyX2 : Nat → FieldType := fun k => match k with
  | 0 => .int
  | 1 => .int
  | 2 => .int
  | 3 => .int
  | _ => .long
theorem nmX2 : ∀ a, a < 5 → ∀ b, b < 5 → a ≠ b → (TX2 a).2.1 ≠ (TX2 b).2.1 := by decide +kernel
theorem tyX2_ok : ∀ k, k < 5 → parseFieldDescriptor (TX2 k).2.2.1 = some (tyX2 k) := by decide +kernel
abbrev cX2_init : ByteArray := prog_4_method_1_code
def yX2_init : MethodName := ⟨RX2, "<init>", "()V"⟩
abbrev cX2_start : ByteArray := prog_4_method_2_code
def yX2_start : MethodName := ⟨RX2, "start", "(II)V"⟩
abbrev cX2_become : ByteArray := prog_4_method_3_code
def yX2_become : MethodName := ⟨RX2, "become", "(LDeedCourt$Field;)V"⟩
abbrev cX2_isOf : ByteArray := prog_4_method_4_code
def yX2_isOf : MethodName := ⟨RX2, "isOf", "(I)Z"⟩
abbrev cX2_tells : ByteArray := prog_4_method_5_code
def yX2_tells : MethodName := ⟨RX2, "tells", "(I)I"⟩
def RX3 : String := "DeedCourt$Land"
def TX3 : u_T := fun k => match k with
  | 0 => ("DeedCourt$Land", "fields", "[LDeedCourt$Field;", true)
  | 1 => ("DeedCourt$Land", "fieldCount", "I", false)
  | 2 => ("DeedCourt$Land", "deeds", "[LDeedCourt$Deed;", true)
  | 3 => ("DeedCourt$Land", "deedCount", "I", false)
  | 4 => ("DeedCourt$Land", "means", "[I", true)
  | 5 => ("DeedCourt$Land", "plan", "LDeedCourt$Plan;", true)
  | 6 => ("DeedCourt$Land", "board", "LDeedCourt$Board;", true)
  | 7 => ("DeedCourt$Land", "search", "LDeedCourt$Search;", true)
  | 8 => ("DeedCourt$Land", "arrows", "[I", true)
  | _ => ("DeedCourt$Land", "ranks", "[I", true)
def tyX3 : Nat → FieldType := fun k => match k with
  | 0 => .array (.object "DeedCourt$Field")
  | 1 => .int
  | 2 => .array (.object "DeedCourt$Deed")
  | 3 => .int
  | 4 => .array .int
  | 5 => .object "DeedCourt$Plan"
  | 6 => .object "DeedCourt$Board"
  | 7 => .object "DeedCourt$Search"
  | 8 => .array .int
  | _ => .array .int
theorem nmX3 : ∀ a, a < 10 → ∀ b, b < 10 → a ≠ b → (TX3 a).2.1 ≠ (TX3 b).2.1 := by decide +kernel
theorem tyX3_ok : ∀ k, k < 10 → parseFieldDescriptor (TX3 k).2.2.1 = some (tyX3 k) := by decide +kernel
abbrev cX3_init : ByteArray := prog_5_method_1_code
def yX3_init : MethodName := ⟨RX3, "<init>", "(LDeedCourt$Ways;)V"⟩
abbrev cX3_become : ByteArray := prog_5_method_2_code
def yX3_become : MethodName := ⟨RX3, "become", "(LDeedCourt$Land;)V"⟩
abbrev cX3_hasField : ByteArray := prog_5_method_3_code
def yX3_hasField : MethodName := ⟨RX3, "hasField", "(I)Z"⟩
abbrev cX3_hasDeed : ByteArray := prog_5_method_4_code
def yX3_hasDeed : MethodName := ⟨RX3, "hasDeed", "(I)Z"⟩
abbrev cX3_addField : ByteArray := prog_5_method_5_code
def yX3_addField : MethodName := ⟨RX3, "addField", "(II)I"⟩
abbrev cX3_asOf : ByteArray := prog_5_method_6_code
def yX3_asOf : MethodName := ⟨RX3, "asOf", "(I)I"⟩
abbrev cX3_fill : ByteArray := prog_5_method_7_code
def yX3_fill : MethodName := ⟨RX3, "fill", "(LDeedCourt$Sets;II)V"⟩
abbrev cX3_canBe : ByteArray := prog_5_method_8_code
def yX3_canBe : MethodName := ⟨RX3, "canBe", "(LDeedCourt$Search;II)I"⟩
abbrev cX3_shortestRing : ByteArray := prog_5_method_9_code
def yX3_shortestRing : MethodName := ⟨RX3, "shortestRing", "(II)I"⟩
abbrev cX3_rankOf : ByteArray := prog_5_method_10_code
def yX3_rankOf : MethodName := ⟨RX3, "rankOf", "(III)I"⟩
abbrev cX3_drawArrows : ByteArray := prog_5_method_11_code
def yX3_drawArrows : MethodName := ⟨RX3, "drawArrows", "(II)V"⟩
abbrev cX3_ringFrom : ByteArray := prog_5_method_12_code
def yX3_ringFrom : MethodName := ⟨RX3, "ringFrom", "(I)I"⟩
abbrev cX3_isSo : ByteArray := prog_5_method_13_code
def yX3_isSo : MethodName := ⟨RX3, "isSo", "(LDeedCourt$Deed;)Z"⟩
abbrev cX3_isRight : ByteArray := prog_5_method_14_code
def yX3_isRight : MethodName := ⟨RX3, "isRight", "(LDeedCourt$Field;)Z"⟩
abbrev cX3_isWhole : ByteArray := prog_5_method_15_code
def yX3_isWhole : MethodName := ⟨RX3, "isWhole", "(JI)Z"⟩
def RX4 : String := "DeedCourt$Plan"
def TX4 : u_T := fun k => match k with
  | 0 => ("DeedCourt$Plan", "count", "I", false)
  | 1 => ("DeedCourt$Plan", "in", "[I", true)
  | _ => ("DeedCourt$Plan", "mates", "[I", true)
def tyX4 : Nat → FieldType := fun k => match k with
  | 0 => .int
  | 1 => .array .int
  | _ => .array .int
theorem nmX4 : ∀ a, a < 3 → ∀ b, b < 3 → a ≠ b → (TX4 a).2.1 ≠ (TX4 b).2.1 := by decide +kernel
theorem tyX4_ok : ∀ k, k < 3 → parseFieldDescriptor (TX4 k).2.2.1 = some (tyX4 k) := by decide +kernel
abbrev cX4_init : ByteArray := prog_6_method_1_code
def yX4_init : MethodName := ⟨RX4, "<init>", "()V"⟩
abbrev cX4_become : ByteArray := prog_6_method_2_code
def yX4_become : MethodName := ⟨RX4, "become", "(LDeedCourt$Plan;)V"⟩
abbrev cX4_hasCell : ByteArray := prog_6_method_3_code
def yX4_hasCell : MethodName := ⟨RX4, "hasCell", "(I)Z"⟩
abbrev cX4_layOut : ByteArray := prog_6_method_4_code
def yX4_layOut : MethodName := ⟨RX4, "layOut", "(LDeedCourt$Sets;)V"⟩
abbrev cX4_layPair : ByteArray := prog_6_method_5_code
def yX4_layPair : MethodName := ⟨RX4, "layPair", "(LDeedCourt$Sets;II)V"⟩
abbrev cX4_addCell : ByteArray := prog_6_method_6_code
def yX4_addCell : MethodName := ⟨RX4, "addCell", "(I)V"⟩
abbrev cX4_addMates : ByteArray := prog_6_method_7_code
def yX4_addMates : MethodName := ⟨RX4, "addMates", "(II)V"⟩
abbrev cX4_upOf : ByteArray := prog_6_method_8_code
def yX4_upOf : MethodName := ⟨RX4, "upOf", "(LDeedCourt$Sets;I)I"⟩
abbrev cX4_beyond : ByteArray := prog_6_method_9_code
def yX4_beyond : MethodName := ⟨RX4, "beyond", "(LDeedCourt$Sets;I)I"⟩
abbrev cX4_reached : ByteArray := prog_6_method_10_code
def yX4_reached : MethodName := ⟨RX4, "reached", "(LDeedCourt$Sets;II)I"⟩
abbrev cX4_wayOf : ByteArray := prog_6_method_11_code
def yX4_wayOf : MethodName := ⟨RX4, "wayOf", "(II)I"⟩
abbrev cX4_isIn : ByteArray := prog_6_method_12_code
def yX4_isIn : MethodName := ⟨RX4, "isIn", "(II)Z"⟩
abbrev cX4_hasNext : ByteArray := prog_6_method_13_code
def yX4_hasNext : MethodName := ⟨RX4, "hasNext", "(IIZ)Z"⟩
def RX5 : String := "DeedCourt$Quarrels"
def TX5 : u_T := fun k => match k with
  | 0 => ("DeedCourt$Quarrels", "quarrel", "I", false)
  | 1 => ("DeedCourt$Quarrels", "leastSum", "I", false)
  | 2 => ("DeedCourt$Quarrels", "doubted", "I", false)
  | 3 => ("DeedCourt$Quarrels", "rivals", "I", false)
  | 4 => ("DeedCourt$Quarrels", "count", "I", false)
  | 5 => ("DeedCourt$Quarrels", "numbers", "[I", true)
  | _ => ("DeedCourt$Quarrels", "fine", "[Z", true)
def tyX5 : Nat → FieldType := fun k => match k with
  | 0 => .int
  | 1 => .int
  | 2 => .int
  | 3 => .int
  | 4 => .int
  | 5 => .array .int
  | _ => .array .boolean
theorem nmX5 : ∀ a, a < 7 → ∀ b, b < 7 → a ≠ b → (TX5 a).2.1 ≠ (TX5 b).2.1 := by decide +kernel
theorem tyX5_ok : ∀ k, k < 7 → parseFieldDescriptor (TX5 k).2.2.1 = some (tyX5 k) := by decide +kernel
abbrev cX5_init : ByteArray := prog_7_method_1_code
def yX5_init : MethodName := ⟨RX5, "<init>", "()V"⟩
abbrev cX5_examine : ByteArray := prog_7_method_2_code
def yX5_examine : MethodName := ⟨RX5, "examine", "(LDeedCourt$Land;LDeedCourt$Search;I)Z"⟩
abbrev cX5_list : ByteArray := prog_7_method_3_code
def yX5_list : MethodName := ⟨RX5, "list", "(I)V"⟩
abbrev cX5_isPartOfFine : ByteArray := prog_7_method_4_code
def yX5_isPartOfFine : MethodName := ⟨RX5, "isPartOfFine", "(I)Z"⟩
abbrev cX5_deedsOf : ByteArray := prog_7_method_5_code
def yX5_deedsOf : MethodName := ⟨RX5, "deedsOf", "(I)I"⟩
abbrev cX5_findQuarrel : ByteArray := prog_7_method_6_code
def yX5_findQuarrel : MethodName := ⟨RX5, "findQuarrel", "()V"⟩
abbrev cX5_findDoubt : ByteArray := prog_7_method_7_code
def yX5_findDoubt : MethodName := ⟨RX5, "findDoubt", "(LDeedCourt$Land;)V"⟩
abbrev cX5_sumOf : ByteArray := prog_7_method_8_code
def yX5_sumOf : MethodName := ⟨RX5, "sumOf", "(LDeedCourt$Land;I)I"⟩
def RX6 : String := "DeedCourt$Search"
def TX6 : u_T := fun k => match k with
  | 0 => ("DeedCourt$Search", "sets", "LDeedCourt$Sets;", true)
  | 1 => ("DeedCourt$Search", "year", "I", false)
  | 2 => ("DeedCourt$Search", "choices", "I", false)
  | 3 => ("DeedCourt$Search", "blinds", "I", false)
  | 4 => ("DeedCourt$Search", "stand", "I", false)
  | 5 => ("DeedCourt$Search", "pairs", "I", false)
  | 6 => ("DeedCourt$Search", "chosen", "I", false)
  | 7 => ("DeedCourt$Search", "untaken", "[I", true)
  | _ => ("DeedCourt$Search", "marks", "[I", true)
def tyX6 : Nat → FieldType := fun k => match k with
  | 0 => .object "DeedCourt$Sets"
  | 1 => .int
  | 2 => .int
  | 3 => .int
  | 4 => .int
  | 5 => .int
  | 6 => .int
  | 7 => .array .int
  | _ => .array .int
theorem nmX6 : ∀ a, a < 9 → ∀ b, b < 9 → a ≠ b → (TX6 a).2.1 ≠ (TX6 b).2.1 := by decide +kernel
theorem tyX6_ok : ∀ k, k < 9 → parseFieldDescriptor (TX6 k).2.2.1 = some (tyX6 k) := by decide +kernel
abbrev cX6_init : ByteArray := prog_8_method_1_code
def yX6_init : MethodName := ⟨RX6, "<init>", "(LDeedCourt$Ways;)V"⟩
abbrev cX6_become : ByteArray := prog_8_method_2_code
def yX6_become : MethodName := ⟨RX6, "become", "(LDeedCourt$Search;)V"⟩
abbrev cX6_open : ByteArray := prog_8_method_3_code
def yX6_open : MethodName := ⟨RX6, "open", "(I)V"⟩
abbrev cX6_run : ByteArray := prog_8_method_4_code
def yX6_run : MethodName := ⟨RX6, "run", "(I)I"⟩
abbrev cX6_runBehind : ByteArray := prog_8_method_5_code
def yX6_runBehind : MethodName := ⟨RX6, "runBehind", "()I"⟩
abbrev cX6_goAhead : ByteArray := prog_8_method_6_code
def yX6_goAhead : MethodName := ⟨RX6, "goAhead", "()V"⟩
abbrev cX6_goBack : ByteArray := prog_8_method_7_code
def yX6_goBack : MethodName := ⟨RX6, "goBack", "()V"⟩
abbrev cX6_seeWhetherSpent : ByteArray := prog_8_method_8_code
def yX6_seeWhetherSpent : MethodName := ⟨RX6, "seeWhetherSpent", "()V"⟩
def RX7 : String := "DeedCourt$Sets"
def TX7 : u_T := fun k => match k with
  | 0 => ("DeedCourt$Sets", "at", "[I", true)
  | 1 => ("DeedCourt$Sets", "count", "I", false)
  | 2 => ("DeedCourt$Sets", "changes", "I", false)
  | 3 => ("DeedCourt$Sets", "rules", "LDeedCourt$Ways;", true)
  | 4 => ("DeedCourt$Sets", "changedPlaces", "[I", true)
  | 5 => ("DeedCourt$Sets", "changedSets", "[I", true)
  | 6 => ("DeedCourt$Sets", "waiting", "[I", true)
  | 7 => ("DeedCourt$Sets", "waits", "[Z", true)
  | 8 => ("DeedCourt$Sets", "firstWaiting", "I", false)
  | _ => ("DeedCourt$Sets", "waitingCount", "I", false)
def tyX7 : Nat → FieldType := fun k => match k with
  | 0 => .array .int
  | 1 => .int
  | 2 => .int
  | 3 => .object "DeedCourt$Ways"
  | 4 => .array .int
  | 5 => .array .int
  | 6 => .array .int
  | 7 => .array .boolean
  | 8 => .int
  | _ => .int
theorem nmX7 : ∀ a, a < 10 → ∀ b, b < 10 → a ≠ b → (TX7 a).2.1 ≠ (TX7 b).2.1 := by decide +kernel
theorem tyX7_ok : ∀ k, k < 10 → parseFieldDescriptor (TX7 k).2.2.1 = some (tyX7 k) := by decide +kernel
abbrev cX7_init : ByteArray := prog_9_method_1_code
def yX7_init : MethodName := ⟨RX7, "<init>", "(LDeedCourt$Ways;)V"⟩
abbrev cX7_become : ByteArray := prog_9_method_2_code
def yX7_become : MethodName := ⟨RX7, "become", "(LDeedCourt$Sets;)V"⟩
abbrev cX7_open : ByteArray := prog_9_method_3_code
def yX7_open : MethodName := ⟨RX7, "open", "(I)V"⟩
abbrev cX7_pairs : ByteArray := prog_9_method_4_code
def yX7_pairs : MethodName := ⟨RX7, "pairs", "()I"⟩
abbrev cX7_lessen : ByteArray := prog_9_method_5_code
def yX7_lessen : MethodName := ⟨RX7, "lessen", "(III)V"⟩
abbrev cX7_shrinkAll : ByteArray := prog_9_method_6_code
def yX7_shrinkAll : MethodName := ⟨RX7, "shrinkAll", "()Z"⟩
abbrev cX7_spread : ByteArray := prog_9_method_7_code
def yX7_spread : MethodName := ⟨RX7, "spread", "()Z"⟩
abbrev cX7_keep : ByteArray := prog_9_method_8_code
def yX7_keep : MethodName := ⟨RX7, "keep", "(II)Z"⟩
abbrev cX7_takeBack : ByteArray := prog_9_method_9_code
def yX7_takeBack : MethodName := ⟨RX7, "takeBack", "(I)V"⟩
def RX8 : String := "DeedCourt$Shelf"
def TX8 : u_T := fun k => match k with
  | 0 => ("DeedCourt$Shelf", "sort", "I", false)
  | 1 => ("DeedCourt$Shelf", "size", "I", false)
  | 2 => ("DeedCourt$Shelf", "shown", "I", false)
  | _ => ("DeedCourt$Shelf", "elements", "[J", true)
def tyX8 : Nat → FieldType := fun k => match k with
  | 0 => .int
  | 1 => .int
  | 2 => .int
  | _ => .array .long
theorem nmX8 : ∀ a, a < 4 → ∀ b, b < 4 → a ≠ b → (TX8 a).2.1 ≠ (TX8 b).2.1 := by decide +kernel
theorem tyX8_ok : ∀ k, k < 4 → parseFieldDescriptor (TX8 k).2.2.1 = some (tyX8 k) := by decide +kernel
abbrev cX8_init : ByteArray := prog_10_method_1_code
def yX8_init : MethodName := ⟨RX8, "<init>", "()V"⟩
abbrev cX8_hasRow : ByteArray := prog_10_method_2_code
def yX8_hasRow : MethodName := ⟨RX8, "hasRow", "()Z"⟩
abbrev cX8_hasField : ByteArray := prog_10_method_3_code
def yX8_hasField : MethodName := ⟨RX8, "hasField", "()Z"⟩
abbrev cX8_hasPart : ByteArray := prog_10_method_4_code
def yX8_hasPart : MethodName := ⟨RX8, "hasPart", "(II)Z"⟩
abbrev cX8_holdRow : ByteArray := prog_10_method_5_code
def yX8_holdRow : MethodName := ⟨RX8, "holdRow", "(II)V"⟩
abbrev cX8_holdField : ByteArray := prog_10_method_6_code
def yX8_holdField : MethodName := ⟨RX8, "holdField", "(I)V"⟩
abbrev cX8_put : ByteArray := prog_10_method_7_code
def yX8_put : MethodName := ⟨RX8, "put", "(IJ)V"⟩
abbrev cX8_cut : ByteArray := prog_10_method_8_code
def yX8_cut : MethodName := ⟨RX8, "cut", "(J)J"⟩
abbrev cX8_cells : ByteArray := prog_10_method_9_code
def yX8_cells : MethodName := ⟨RX8, "cells", "()J"⟩
def RX9 : String := "DeedCourt$Tape"
def TX9 : u_T := fun k => match k with
  | 0 => ("DeedCourt$Tape", "size", "I", false)
  | 1 => ("DeedCourt$Tape", "bytes", "[B", true)
  | 2 => ("DeedCourt$Tape", "token", "I", false)
  | 3 => ("DeedCourt$Tape", "start", "I", false)
  | 4 => ("DeedCourt$Tape", "end", "I", false)
  | _ => ("DeedCourt$Tape", "number", "I", false)
def tyX9 : Nat → FieldType := fun k => match k with
  | 0 => .int
  | 1 => .array .byte
  | 2 => .int
  | 3 => .int
  | 4 => .int
  | _ => .int
theorem nmX9 : ∀ a, a < 6 → ∀ b, b < 6 → a ≠ b → (TX9 a).2.1 ≠ (TX9 b).2.1 := by decide +kernel
theorem tyX9_ok : ∀ k, k < 6 → parseFieldDescriptor (TX9 k).2.2.1 = some (tyX9 k) := by decide +kernel
abbrev cX9_init : ByteArray := prog_11_method_1_code
def yX9_init : MethodName := ⟨RX9, "<init>", "()V"⟩
abbrev cX9_add : ByteArray := prog_11_method_2_code
def yX9_add : MethodName := ⟨RX9, "add", "(I)V"⟩
abbrev cX9_read : ByteArray := prog_11_method_3_code
def yX9_read : MethodName := ⟨RX9, "read", "(LDeedCourt$Deed;I)I"⟩
abbrev cX9_readSecond : ByteArray := prog_11_method_4_code
def yX9_readSecond : MethodName := ⟨RX9, "readSecond", "(LDeedCourt$Deed;I)Z"⟩
abbrev cX9_readSaid : ByteArray := prog_11_method_5_code
def yX9_readSaid : MethodName := ⟨RX9, "readSaid", "(LDeedCourt$Deed;)Z"⟩
abbrev cX9_readOne : ByteArray := prog_11_method_6_code
def yX9_readOne : MethodName := ⟨RX9, "readOne", "(LDeedCourt$Deed;)Z"⟩
abbrev cX9_readYear : ByteArray := prog_11_method_7_code
def yX9_readYear : MethodName := ⟨RX9, "readYear", "(LDeedCourt$Deed;)Z"⟩
abbrev cX9_readWeight : ByteArray := prog_11_method_8_code
def yX9_readWeight : MethodName := ⟨RX9, "readWeight", "(LDeedCourt$Deed;)Z"⟩
abbrev cX9_orderHere : ByteArray := prog_11_method_9_code
def yX9_orderHere : MethodName := ⟨RX9, "orderHere", "()I"⟩
abbrev cX9_waysHere : ByteArray := prog_11_method_10_code
def yX9_waysHere : MethodName := ⟨RX9, "waysHere", "()I"⟩
abbrev cX9_spells : ByteArray := prog_11_method_11_code
def yX9_spells : MethodName := ⟨RX9, "spells", "(Ljava/lang/String;)Z"⟩
abbrev cX9_take : ByteArray := prog_11_method_12_code
def yX9_take : MethodName := ⟨RX9, "take", "(II)I"⟩
abbrev cX9_advance : ByteArray := prog_11_method_13_code
def yX9_advance : MethodName := ⟨RX9, "advance", "()V"⟩
abbrev cX9_valueHere : ByteArray := prog_11_method_14_code
def yX9_valueHere : MethodName := ⟨RX9, "valueHere", "()I"⟩
abbrev cX9_byteAt : ByteArray := prog_11_method_15_code
def yX9_byteAt : MethodName := ⟨RX9, "byteAt", "(I)I"⟩
abbrev cX9_isLetter : ByteArray := prog_11_method_16_code
def yX9_isLetter : MethodName := ⟨RX9, "isLetter", "(I)Z"⟩
abbrev cX9_isDigit : ByteArray := prog_11_method_17_code
def yX9_isDigit : MethodName := ⟨RX9, "isDigit", "(I)Z"⟩
def RX10 : String := "DeedCourt$Ways"
def TX10 : u_T := fun k => match k with
  | 0 => ("DeedCourt$Ways", "turns", "[I", true)
  | _ => ("DeedCourt$Ways", "halves", "[I", true)
def tyX10 : Nat → FieldType := fun k => match k with
  | 0 => .array .int
  | _ => .array .int
theorem nmX10 : ∀ a, a < 2 → ∀ b, b < 2 → a ≠ b → (TX10 a).2.1 ≠ (TX10 b).2.1 := by decide +kernel
theorem tyX10_ok : ∀ k, k < 2 → parseFieldDescriptor (TX10 k).2.2.1 = some (tyX10 k) := by decide +kernel
abbrev cX10_init : ByteArray := prog_12_method_1_code
def yX10_init : MethodName := ⟨RX10, "<init>", "()V"⟩
abbrev cX10_fromLesser : ByteArray := prog_12_method_2_code
def yX10_fromLesser : MethodName := ⟨RX10, "fromLesser", "(I)I"⟩
abbrev cX10_ofTwo : ByteArray := prog_12_method_3_code
def yX10_ofTwo : MethodName := ⟨RX10, "ofTwo", "(II)I"⟩
abbrev cX10_only : ByteArray := prog_12_method_4_code
def yX10_only : MethodName := ⟨RX10, "only", "(I)I"⟩
def RX11 : String := "DeedCourt"
def TX11 : u_T := fun k => match k with
  | 0 => ("DeedCourt", "shelves", "[LDeedCourt$Shelf;", true)
  | 1 => ("DeedCourt", "tape", "LDeedCourt$Tape;", true)
  | 2 => ("DeedCourt", "land", "LDeedCourt$Land;", true)
  | 3 => ("DeedCourt", "kept", "LDeedCourt$Land;", true)
  | 4 => ("DeedCourt", "isKept", "Z", false)
  | 5 => ("DeedCourt", "refusals", "[I", true)
  | 6 => ("DeedCourt", "rules", "LDeedCourt$Ways;", true)
  | 7 => ("DeedCourt", "probe", "LDeedCourt$Search;", true)
  | 8 => ("DeedCourt", "quarrels", "LDeedCourt$Quarrels;", true)
  | _ => ("DeedCourt", "tally", "[I", true)
def tyX11 : Nat → FieldType := fun k => match k with
  | 0 => .array (.object "DeedCourt$Shelf")
  | 1 => .object "DeedCourt$Tape"
  | 2 => .object "DeedCourt$Land"
  | 3 => .object "DeedCourt$Land"
  | 4 => .boolean
  | 5 => .array .int
  | 6 => .object "DeedCourt$Ways"
  | 7 => .object "DeedCourt$Search"
  | 8 => .object "DeedCourt$Quarrels"
  | _ => .array .int
theorem nmX11 : ∀ a, a < 10 → ∀ b, b < 10 → a ≠ b → (TX11 a).2.1 ≠ (TX11 b).2.1 := by decide +kernel
theorem tyX11_ok : ∀ k, k < 10 → parseFieldDescriptor (TX11 k).2.2.1 = some (tyX11 k) := by decide +kernel
abbrev cX11_init : ByteArray := prog_1_method_1_code
def yX11_init : MethodName := ⟨RX11, "<init>", "()V"⟩
abbrev cX11_row : ByteArray := prog_1_method_2_code
def yX11_row : MethodName := ⟨RX11, "row", "(III)I"⟩
abbrev cX11_set : ByteArray := prog_1_method_3_code
def yX11_set : MethodName := ⟨RX11, "set", "(IIJ)I"⟩
abbrev cX11_copy : ByteArray := prog_1_method_4_code
def yX11_copy : MethodName := ⟨RX11, "copy", "(IIIII)I"⟩
abbrev cX11_element : ByteArray := prog_1_method_5_code
def yX11_element : MethodName := ⟨RX11, "element", "(II)J"⟩
abbrev cX11_holds : ByteArray := prog_1_method_6_code
def yX11_holds : MethodName := ⟨RX11, "holds", "(I)I"⟩
abbrev cX11_show : ByteArray := prog_1_method_7_code
def yX11_show : MethodName := ⟨RX11, "show", "(II)I"⟩
abbrev cX11_says : ByteArray := prog_1_method_8_code
def yX11_says : MethodName := ⟨RX11, "says", "(II)I"⟩
abbrev cX11_field : ByteArray := prog_1_method_9_code
def yX11_field : MethodName := ⟨RX11, "field", "(II)I"⟩
abbrev cX11_fieldOf : ByteArray := prog_1_method_10_code
def yX11_fieldOf : MethodName := ⟨RX11, "fieldOf", "(II)I"⟩
abbrev cX11_part : ByteArray := prog_1_method_11_code
def yX11_part : MethodName := ⟨RX11, "part", "(II)I"⟩
abbrev cX11_feed : ByteArray := prog_1_method_12_code
def yX11_feed : MethodName := ⟨RX11, "feed", "(II)I"⟩
abbrev cX11_wipe : ByteArray := prog_1_method_13_code
def yX11_wipe : MethodName := ⟨RX11, "wipe", "()I"⟩
abbrev cX11_deed : ByteArray := prog_1_method_14_code
def yX11_deed : MethodName := ⟨RX11, "deed", "()I"⟩
abbrev cX11_deedOf : ByteArray := prog_1_method_15_code
def yX11_deedOf : MethodName := ⟨RX11, "deedOf", "(II)I"⟩
abbrev cX11_drop : ByteArray := prog_1_method_16_code
def yX11_drop : MethodName := ⟨RX11, "drop", "(IZ)I"⟩
abbrev cX11_weigh : ByteArray := prog_1_method_17_code
def yX11_weigh : MethodName := ⟨RX11, "weigh", "(II)I"⟩
abbrev cX11_mean : ByteArray := prog_1_method_18_code
def yX11_mean : MethodName := ⟨RX11, "mean", "(II)I"⟩
abbrev cX11_turned : ByteArray := prog_1_method_19_code
def yX11_turned : MethodName := ⟨RX11, "turned", "(I)I"⟩
abbrev cX11_three : ByteArray := prog_1_method_20_code
def yX11_three : MethodName := ⟨RX11, "three", "(II)I"⟩
abbrev cX11_follow : ByteArray := prog_1_method_21_code
def yX11_follow : MethodName := ⟨RX11, "follow", "(II)I"⟩
abbrev cX11_ways : ByteArray := prog_1_method_22_code
def yX11_ways : MethodName := ⟨RX11, "ways", "(III)I"⟩
abbrev cX11_shrink : ByteArray := prog_1_method_23_code
def yX11_shrink : MethodName := ⟨RX11, "shrink", "(I)I"⟩
abbrev cX11_known : ByteArray := prog_1_method_24_code
def yX11_known : MethodName := ⟨RX11, "known", "(III)I"⟩
abbrev cX11_can : ByteArray := prog_1_method_25_code
def yX11_can : MethodName := ⟨RX11, "can", "(I)I"⟩
abbrev cX11_choose : ByteArray := prog_1_method_26_code
def yX11_choose : MethodName := ⟨RX11, "choose", "(I)I"⟩
abbrev cX11_blind : ByteArray := prog_1_method_27_code
def yX11_blind : MethodName := ⟨RX11, "blind", "(I)I"⟩
abbrev cX11_told : ByteArray := prog_1_method_28_code
def yX11_told : MethodName := ⟨RX11, "told", "(III)I"⟩
abbrev cX11_many : ByteArray := prog_1_method_29_code
def yX11_many : MethodName := ⟨RX11, "many", "(II)I"⟩
abbrev cX11_may : ByteArray := prog_1_method_30_code
def yX11_may : MethodName := ⟨RX11, "may", "(III)I"⟩
abbrev cX11_must : ByteArray := prog_1_method_31_code
def yX11_must : MethodName := ⟨RX11, "must", "(III)I"⟩
abbrev cX11_quarrel : ByteArray := prog_1_method_32_code
def yX11_quarrel : MethodName := ⟨RX11, "quarrel", "(I)I"⟩
abbrev cX11_small : ByteArray := prog_1_method_33_code
def yX11_small : MethodName := ⟨RX11, "small", "(I)I"⟩
abbrev cX11_doubt : ByteArray := prog_1_method_34_code
def yX11_doubt : MethodName := ⟨RX11, "doubt", "(I)I"⟩
abbrev cX11_drops : ByteArray := prog_1_method_35_code
def yX11_drops : MethodName := ⟨RX11, "drops", "(I)I"⟩
abbrev cX11_rival : ByteArray := prog_1_method_36_code
def yX11_rival : MethodName := ⟨RX11, "rival", "(I)I"⟩
abbrev cX11_word : ByteArray := prog_1_method_37_code
def yX11_word : MethodName := ⟨RX11, "word", "(II)I"⟩
abbrev cX11_settle : ByteArray := prog_1_method_38_code
def yX11_settle : MethodName := ⟨RX11, "settle", "(I)I"⟩
abbrev cX11_left : ByteArray := prog_1_method_39_code
def yX11_left : MethodName := ⟨RX11, "left", "(I)I"⟩
abbrev cX11_ring : ByteArray := prog_1_method_40_code
def yX11_ring : MethodName := ⟨RX11, "ring", "(II)I"⟩
abbrev cX11_rank : ByteArray := prog_1_method_41_code
def yX11_rank : MethodName := ⟨RX11, "rank", "(III)I"⟩
abbrev cX11_lay : ByteArray := prog_1_method_42_code
def yX11_lay : MethodName := ⟨RX11, "lay", "(I)I"⟩
abbrev cX11_cell : ByteArray := prog_1_method_43_code
def yX11_cell : MethodName := ⟨RX11, "cell", "(II)I"⟩
abbrev cX11_mate : ByteArray := prog_1_method_44_code
def yX11_mate : MethodName := ⟨RX11, "mate", "(I)I"⟩
abbrev cX11_laid : ByteArray := prog_1_method_45_code
def yX11_laid : MethodName := ⟨RX11, "laid", "(II)I"⟩
abbrev cX11_ground : ByteArray := prog_1_method_46_code
def yX11_ground : MethodName := ⟨RX11, "ground", "(II)I"⟩
abbrev cX11_groundOf : ByteArray := prog_1_method_47_code
def yX11_groundOf : MethodName := ⟨RX11, "groundOf", "(I)J"⟩
abbrev cX11_lies : ByteArray := prog_1_method_48_code
def yX11_lies : MethodName := ⟨RX11, "lies", "(II)I"⟩
abbrev cX11_judge : ByteArray := prog_1_method_49_code
def yX11_judge : MethodName := ⟨RX11, "judge", "(I)I"⟩
abbrev cX11_right : ByteArray := prog_1_method_50_code
def yX11_right : MethodName := ⟨RX11, "right", "(I)I"⟩
abbrev cX11_whole : ByteArray := prog_1_method_51_code
def yX11_whole : MethodName := ⟨RX11, "whole", "(II)I"⟩
abbrev cX11_draw : ByteArray := prog_1_method_52_code
def yX11_draw : MethodName := ⟨RX11, "draw", "(I)I"⟩
abbrev cX11_found : ByteArray := prog_1_method_53_code
def yX11_found : MethodName := ⟨RX11, "found", "(II)I"⟩
abbrev cX11_seed : ByteArray := prog_1_method_54_code
def yX11_seed : MethodName := ⟨RX11, "seed", "(I)I"⟩
abbrev cX11_begin : ByteArray := prog_1_method_55_code
def yX11_begin : MethodName := ⟨RX11, "begin", "(I)I"⟩
abbrev cX11_step : ByteArray := prog_1_method_56_code
def yX11_step : MethodName := ⟨RX11, "step", "(I)I"⟩
abbrev cX11_search : ByteArray := prog_1_method_57_code
def yX11_search : MethodName := ⟨RX11, "search", "(I)I"⟩
abbrev cX11_image : ByteArray := prog_1_method_58_code
def yX11_image : MethodName := ⟨RX11, "image", "()I"⟩
abbrev cX11_back : ByteArray := prog_1_method_59_code
def yX11_back : MethodName := ⟨RX11, "back", "()I"⟩
abbrev cX11_status : ByteArray := prog_1_method_60_code
def yX11_status : MethodName := ⟨RX11, "status", "(I)I"⟩
abbrev cX11_heldShelves : ByteArray := prog_1_method_61_code
def yX11_heldShelves : MethodName := ⟨RX11, "heldShelves", "()I"⟩
abbrev cX11_refuse : ByteArray := prog_1_method_62_code
def yX11_refuse : MethodName := ⟨RX11, "refuse", "(I)I"⟩
abbrev cX11_isShelf : ByteArray := prog_1_method_63_code
def yX11_isShelf : MethodName := ⟨RX11, "isShelf", "(I)Z"⟩
abbrev cX11_isYear : ByteArray := prog_1_method_64_code
def yX11_isYear : MethodName := ⟨RX11, "isYear", "(I)Z"⟩
abbrev cX11_isWay : ByteArray := prog_1_method_65_code
def yX11_isWay : MethodName := ⟨RX11, "isWay", "(I)Z"⟩
abbrev cX11_isSet : ByteArray := prog_1_method_66_code
def yX11_isSet : MethodName := ⟨RX11, "isSet", "(I)Z"⟩
abbrev cX11_isOrder : ByteArray := prog_1_method_67_code
def yX11_isOrder : MethodName := ⟨RX11, "isOrder", "(I)Z"⟩
abbrev cX11_areTwo : ByteArray := prog_1_method_68_code
def yX11_areTwo : MethodName := ⟨RX11, "areTwo", "(II)Z"⟩
abbrev cX11_searched : ByteArray := prog_1_method_69_code
def yX11_searched : MethodName := ⟨RX11, "searched", "(I)I"⟩
abbrev cX11_possible : ByteArray := prog_1_method_70_code
def yX11_possible : MethodName := ⟨RX11, "possible", "(III)I"⟩
abbrev cX11_tallyTellings : ByteArray := prog_1_method_71_code
def yX11_tallyTellings : MethodName := ⟨RX11, "tallyTellings", "(I)Z"⟩
abbrev cX11_bestPair : ByteArray := prog_1_method_72_code
def yX11_bestPair : MethodName := ⟨RX11, "bestPair", "()I"⟩
abbrev cX11_greatestOf : ByteArray := prog_1_method_73_code
def yX11_greatestOf : MethodName := ⟨RX11, "greatestOf", "(I)I"⟩
def RX12 : String := "DeedCourtModel"
def TX12 : u_T := fun k => match k with
  | 0 => ("DeedCourtModel", "shelf", "[I", true)
  | 1 => ("DeedCourtModel", "rowSort", "[I", true)
  | 2 => ("DeedCourtModel", "rowSize", "[I", true)
  | 3 => ("DeedCourtModel", "rows", "[[J", true)
  | 4 => ("DeedCourtModel", "shown", "[I", true)
  | 5 => ("DeedCourtModel", "moved", "[J", true)
  | 6 => ("DeedCourtModel", "tape", "[I", true)
  | 7 => ("DeedCourtModel", "tapeSize", "I", false)
  | 8 => ("DeedCourtModel", "refused", "[I", true)
  | 9 => ("DeedCourtModel", "fields", "I", false)
  | 10 => ("DeedCourtModel", "kind", "[I", true)
  | 11 => ("DeedCourtModel", "since", "[I", true)
  | 12 => ("DeedCourtModel", "partedIn", "[I", true)
  | 13 => ("DeedCourtModel", "firstPart", "[I", true)
  | 14 => ("DeedCourtModel", "ground", "[J", true)
  | 15 => ("DeedCourtModel", "deeds", "I", false)
  | 16 => ("DeedCourtModel", "first", "[I", true)
  | 17 => ("DeedCourtModel", "second", "[I", true)
  | 18 => ("DeedCourtModel", "yearOf", "[I", true)
  | 19 => ("DeedCourtModel", "weight", "[I", true)
  | 20 => ("DeedCourtModel", "order", "[I", true)
  | 21 => ("DeedCourtModel", "said", "[I", true)
  | 22 => ("DeedCourtModel", "olds", "[I", true)
  | 23 => ("DeedCourtModel", "not", "[I", true)
  | 24 => ("DeedCourtModel", "dropped", "[I", true)
  | 25 => ("DeedCourtModel", "means", "[I", true)
  | 26 => ("DeedCourtModel", "foundWays", "[I", true)
  | 27 => ("DeedCourtModel", "seed", "I", false)
  | 28 => ("DeedCourtModel", "laidCells", "I", false)
  | 29 => ("DeedCourtModel", "cellIn", "[I", true)
  | 30 => ("DeedCourtModel", "mateOf", "[I", true)
  | 31 => ("DeedCourtModel", "begun", "I", false)
  | 32 => ("DeedCourtModel", "begunYear", "I", false)
  | 33 => ("DeedCourtModel", "kept", "LDeedCourtModel;", false)
  | 34 => ("DeedCourtModel", "many", "I", false)
  | 35 => ("DeedCourtModel", "pairs", "I", false)
  | 36 => ("DeedCourtModel", "sets", "[[I", true)
  | 37 => ("DeedCourtModel", "tried", "[I", true)
  | 38 => ("DeedCourtModel", "level", "I", false)
  | 39 => ("DeedCourtModel", "choices", "I", false)
  | 40 => ("DeedCourtModel", "blind", "I", false)
  | 41 => ("DeedCourtModel", "state", "I", false)
  | 42 => ("DeedCourtModel", "own", "LDeedCourtModel;", true)
  | 43 => ("DeedCourtModel", "at", "I", false)
  | 44 => ("DeedCourtModel", "token", "I", false)
  | 45 => ("DeedCourtModel", "from", "I", false)
  | 46 => ("DeedCourtModel", "told", "J", false)
  | 47 => ("DeedCourtModel", "fault", "I", false)
  | 48 => ("DeedCourtModel", "number", "I", false)
  | 49 => ("DeedCourtModel", "words", "[Ljava/lang/String;", true)
  | 50 => ("DeedCourtModel", "orders", "[Ljava/lang/String;", true)
  | 51 => ("DeedCourtModel", "byWay", "[I", true)
  | 52 => ("DeedCourtModel", "knowsWays", "Z", false)
  | 53 => ("DeedCourtModel", "fresh", "Z", false)
  | 54 => ("DeedCourtModel", "freshYear", "I", false)
  | 55 => ("DeedCourtModel", "freshOf", "I", false)
  | 56 => ("DeedCourtModel", "among", "[I", true)
  | 57 => ("DeedCourtModel", "amongMany", "I", false)
  | 58 => ("DeedCourtModel", "quarrelSet", "I", false)
  | 59 => ("DeedCourtModel", "doubtSum", "I", false)
  | 60 => ("DeedCourtModel", "doubtSet", "I", false)
  | 61 => ("DeedCourtModel", "rivals", "I", false)
  | 62 => ("DeedCourtModel", "cans", "[I", true)
  | 63 => ("DeedCourtModel", "tellings", "[I", true)
  | 64 => ("DeedCourtModel", "settled", "I", false)
  | 65 => ("DeedCourtModel", "worst", "I", false)
  | _ => ("DeedCourtModel", "rank", "[I", true)
def tyX12 : Nat → FieldType := fun k => match k with
  | 0 => .array .int
  | 1 => .array .int
  | 2 => .array .int
  | 3 => .array (.array .long)
  | 4 => .array .int
  | 5 => .array .long
  | 6 => .array .int
  | 7 => .int
  | 8 => .array .int
  | 9 => .int
  | 10 => .array .int
  | 11 => .array .int
  | 12 => .array .int
  | 13 => .array .int
  | 14 => .array .long
  | 15 => .int
  | 16 => .array .int
  | 17 => .array .int
  | 18 => .array .int
  | 19 => .array .int
  | 20 => .array .int
  | 21 => .array .int
  | 22 => .array .int
  | 23 => .array .int
  | 24 => .array .int
  | 25 => .array .int
  | 26 => .array .int
  | 27 => .int
  | 28 => .int
  | 29 => .array .int
  | 30 => .array .int
  | 31 => .int
  | 32 => .int
  | 33 => .object "DeedCourtModel"
  | 34 => .int
  | 35 => .int
  | 36 => .array (.array .int)
  | 37 => .array .int
  | 38 => .int
  | 39 => .int
  | 40 => .int
  | 41 => .int
  | 42 => .object "DeedCourtModel"
  | 43 => .int
  | 44 => .int
  | 45 => .int
  | 46 => .long
  | 47 => .int
  | 48 => .int
  | 49 => .array (.object "java/lang/String")
  | 50 => .array (.object "java/lang/String")
  | 51 => .array .int
  | 52 => .boolean
  | 53 => .boolean
  | 54 => .int
  | 55 => .int
  | 56 => .array .int
  | 57 => .int
  | 58 => .int
  | 59 => .int
  | 60 => .int
  | 61 => .int
  | 62 => .array .int
  | 63 => .array .int
  | 64 => .int
  | 65 => .int
  | _ => .array .int
theorem nmX12 : ∀ a, a < 67 → ∀ b, b < 67 → a ≠ b → (TX12 a).2.1 ≠ (TX12 b).2.1 := by decide +kernel
theorem tyX12_ok : ∀ k, k < 67 → parseFieldDescriptor (TX12 k).2.2.1 = some (tyX12 k) := by decide +kernel
abbrev cX12_init : ByteArray := prog_14_method_1_code
def yX12_init : MethodName := ⟨RX12, "<init>", "()V"⟩
abbrev cX12_init_ : ByteArray := prog_14_method_2_code
def yX12_init_ : MethodName := ⟨RX12, "<init>", "(Z)V"⟩
abbrev cX12_refuse : ByteArray := prog_14_method_3_code
def yX12_refuse : MethodName := ⟨RX12, "refuse", "(I)I"⟩
abbrev cX12_in : ByteArray := prog_14_method_4_code
def yX12_in : MethodName := ⟨RX12, "in", "(JJJ)Z"⟩
abbrev cX12_isField : ByteArray := prog_14_method_5_code
def yX12_isField : MethodName := ⟨RX12, "isField", "(I)Z"⟩
abbrev cX12_areTwo : ByteArray := prog_14_method_6_code
def yX12_areTwo : MethodName := ⟨RX12, "areTwo", "(II)Z"⟩
abbrev cX12_isYear : ByteArray := prog_14_method_7_code
def yX12_isYear : MethodName := ⟨RX12, "isYear", "(I)Z"⟩
abbrev cX12_isSet : ByteArray := prog_14_method_8_code
def yX12_isSet : MethodName := ⟨RX12, "isSet", "(I)Z"⟩
abbrev cX12_isWay : ByteArray := prog_14_method_9_code
def yX12_isWay : MethodName := ⟨RX12, "isWay", "(I)Z"⟩
abbrev cX12_row : ByteArray := prog_14_method_10_code
def yX12_row : MethodName := ⟨RX12, "row", "(III)I"⟩
abbrev cX12_fit : ByteArray := prog_14_method_11_code
def yX12_fit : MethodName := ⟨RX12, "fit", "(IJ)J"⟩
abbrev cX12_set : ByteArray := prog_14_method_12_code
def yX12_set : MethodName := ⟨RX12, "set", "(IIJ)I"⟩
abbrev cX12_copy : ByteArray := prog_14_method_13_code
def yX12_copy : MethodName := ⟨RX12, "copy", "(IIIII)I"⟩
abbrev cX12_element : ByteArray := prog_14_method_14_code
def yX12_element : MethodName := ⟨RX12, "element", "(II)J"⟩
abbrev cX12_holds : ByteArray := prog_14_method_15_code
def yX12_holds : MethodName := ⟨RX12, "holds", "(I)I"⟩
abbrev cX12_show : ByteArray := prog_14_method_16_code
def yX12_show : MethodName := ⟨RX12, "show", "(II)I"⟩
abbrev cX12_isUnder : ByteArray := prog_14_method_17_code
def yX12_isUnder : MethodName := ⟨RX12, "isUnder", "(II)Z"⟩
abbrev cX12_rowOf : ByteArray := prog_14_method_18_code
def yX12_rowOf : MethodName := ⟨RX12, "rowOf", "(I)I"⟩
abbrev cX12_columnOf : ByteArray := prog_14_method_19_code
def yX12_columnOf : MethodName := ⟨RX12, "columnOf", "(I)I"⟩
abbrev cX12_isRim : ByteArray := prog_14_method_20_code
def yX12_isRim : MethodName := ⟨RX12, "isRim", "(I)Z"⟩
abbrev cX12_count : ByteArray := prog_14_method_21_code
def yX12_count : MethodName := ⟨RX12, "count", "(J)I"⟩
abbrev cX12_says : ByteArray := prog_14_method_22_code
def yX12_says : MethodName := ⟨RX12, "says", "(II)I"⟩
abbrev cX12_edgeOf : ByteArray := prog_14_method_23_code
def yX12_edgeOf : MethodName := ⟨RX12, "edgeOf", "(JZZ)I"⟩
abbrev cX12_newField : ByteArray := prog_14_method_24_code
def yX12_newField : MethodName := ⟨RX12, "newField", "(II)V"⟩
abbrev cX12_field : ByteArray := prog_14_method_25_code
def yX12_field : MethodName := ⟨RX12, "field", "(II)I"⟩
abbrev cX12_fieldOf : ByteArray := prog_14_method_26_code
def yX12_fieldOf : MethodName := ⟨RX12, "fieldOf", "(II)I"⟩
abbrev cX12_part : ByteArray := prog_14_method_27_code
def yX12_part : MethodName := ⟨RX12, "part", "(II)I"⟩
abbrev cX12_feed : ByteArray := prog_14_method_28_code
def yX12_feed : MethodName := ⟨RX12, "feed", "(II)I"⟩
abbrev cX12_wipe : ByteArray := prog_14_method_29_code
def yX12_wipe : MethodName := ⟨RX12, "wipe", "()I"⟩
abbrev cX12_isLetter : ByteArray := prog_14_method_30_code
def yX12_isLetter : MethodName := ⟨RX12, "isLetter", "(I)Z"⟩
abbrev cX12_isDigit : ByteArray := prog_14_method_31_code
def yX12_isDigit : MethodName := ⟨RX12, "isDigit", "(I)Z"⟩
abbrev cX12_look : ByteArray := prog_14_method_32_code
def yX12_look : MethodName := ⟨RX12, "look", "()V"⟩
abbrev cX12_wrong : ByteArray := prog_14_method_33_code
def yX12_wrong : MethodName := ⟨RX12, "wrong", "()Z"⟩
abbrev cX12_letters : ByteArray := prog_14_method_34_code
def yX12_letters : MethodName := ⟨RX12, "letters", "(Ljava/lang/String;)J"⟩
abbrev cX12_isWord : ByteArray := prog_14_method_35_code
def yX12_isWord : MethodName := ⟨RX12, "isWord", "(Ljava/lang/String;)Z"⟩
abbrev cX12_number : ByteArray := prog_14_method_36_code
def yX12_number : MethodName := ⟨RX12, "number", "(II)Z"⟩
abbrev cX12_one : ByteArray := prog_14_method_37_code
def yX12_one : MethodName := ⟨RX12, "one", "(I)Z"⟩
abbrev cX12_ways : ByteArray := prog_14_method_38_code
def yX12_ways : MethodName := ⟨RX12, "ways", "(I)Z"⟩
abbrev cX12_read : ByteArray := prog_14_method_39_code
def yX12_read : MethodName := ⟨RX12, "read", "(I)Z"⟩
abbrev cX12_deed : ByteArray := prog_14_method_40_code
def yX12_deed : MethodName := ⟨RX12, "deed", "()I"⟩
abbrev cX12_isDeed : ByteArray := prog_14_method_41_code
def yX12_isDeed : MethodName := ⟨RX12, "isDeed", "(I)Z"⟩
abbrev cX12_lets : ByteArray := prog_14_method_42_code
def yX12_lets : MethodName := ⟨RX12, "lets", "(I)I"⟩
abbrev cX12_deedOf : ByteArray := prog_14_method_43_code
def yX12_deedOf : MethodName := ⟨RX12, "deedOf", "(II)I"⟩
abbrev cX12_drop : ByteArray := prog_14_method_44_code
def yX12_drop : MethodName := ⟨RX12, "drop", "(IZ)I"⟩
abbrev cX12_weigh : ByteArray := prog_14_method_45_code
def yX12_weigh : MethodName := ⟨RX12, "weigh", "(II)I"⟩
abbrev cX12_mean : ByteArray := prog_14_method_46_code
def yX12_mean : MethodName := ⟨RX12, "mean", "(II)I"⟩
abbrev cX12_turn : ByteArray := prog_14_method_47_code
def yX12_turn : MethodName := ⟨RX12, "turn", "(I)I"⟩
abbrev cX12_follows : ByteArray := prog_14_method_48_code
def yX12_follows : MethodName := ⟨RX12, "follows", "(II)I"⟩
abbrev cX12_turned : ByteArray := prog_14_method_49_code
def yX12_turned : MethodName := ⟨RX12, "turned", "(I)I"⟩
abbrev cX12_three : ByteArray := prog_14_method_50_code
def yX12_three : MethodName := ⟨RX12, "three", "(II)I"⟩
abbrev cX12_follow : ByteArray := prog_14_method_51_code
def yX12_follow : MethodName := ⟨RX12, "follow", "(II)I"⟩
abbrev cX12_counts : ByteArray := prog_14_method_52_code
def yX12_counts : MethodName := ⟨RX12, "counts", "(II)Z"⟩
abbrev cX12_less : ByteArray := prog_14_method_53_code
def yX12_less : MethodName := ⟨RX12, "less", "([IIII)V"⟩
abbrev cX12_makeSets : ByteArray := prog_14_method_54_code
def yX12_makeSets : MethodName := ⟨RX12, "makeSets", "([III)V"⟩
abbrev cX12_followsOf : ByteArray := prog_14_method_55_code
def yX12_followsOf : MethodName := ⟨RX12, "followsOf", "(II)I"⟩
abbrev cX12_shrinkAll : ByteArray := prog_14_method_56_code
def yX12_shrinkAll : MethodName := ⟨RX12, "shrinkAll", "([II)Z"⟩
abbrev cX12_isWhole : ByteArray := prog_14_method_57_code
def yX12_isWhole : MethodName := ⟨RX12, "isWhole", "([II)Z"⟩
abbrev cX12_ways_ : ByteArray := prog_14_method_58_code
def yX12_ways_ : MethodName := ⟨RX12, "ways", "(III)I"⟩
abbrev cX12_shrink : ByteArray := prog_14_method_59_code
def yX12_shrink : MethodName := ⟨RX12, "shrink", "(I)I"⟩
abbrev cX12_known : ByteArray := prog_14_method_60_code
def yX12_known : MethodName := ⟨RX12, "known", "(III)I"⟩
abbrev cX12_lesserOf : ByteArray := prog_14_method_61_code
def yX12_lesserOf : MethodName := ⟨RX12, "lesserOf", "(I)I"⟩
abbrev cX12_greaterOf : ByteArray := prog_14_method_62_code
def yX12_greaterOf : MethodName := ⟨RX12, "greaterOf", "(I)I"⟩
abbrev cX12_beginSearch : ByteArray := prog_14_method_63_code
def yX12_beginSearch : MethodName := ⟨RX12, "beginSearch", "(I)V"⟩
abbrev cX12_nextWay : ByteArray := prog_14_method_64_code
def yX12_nextWay : MethodName := ⟨RX12, "nextWay", "()I"⟩
abbrev cX12_comeBack : ByteArray := prog_14_method_65_code
def yX12_comeBack : MethodName := ⟨RX12, "comeBack", "()Z"⟩
abbrev cX12_choose : ByteArray := prog_14_method_66_code
def yX12_choose : MethodName := ⟨RX12, "choose", "()V"⟩
abbrev cX12_goOn : ByteArray := prog_14_method_67_code
def yX12_goOn : MethodName := ⟨RX12, "goOn", "()V"⟩
abbrev cX12_goBehind : ByteArray := prog_14_method_68_code
def yX12_goBehind : MethodName := ⟨RX12, "goBehind", "()V"⟩
abbrev cX12_search : ByteArray := prog_14_method_69_code
def yX12_search : MethodName := ⟨RX12, "search", "(II)V"⟩
abbrev cX12_fewestIn : ByteArray := prog_14_method_70_code
def yX12_fewestIn : MethodName := ⟨RX12, "fewestIn", "(III)I"⟩
abbrev cX12_hasRing : ByteArray := prog_14_method_71_code
def yX12_hasRing : MethodName := ⟨RX12, "hasRing", "(II)Z"⟩
abbrev cX12_canOf : ByteArray := prog_14_method_72_code
def yX12_canOf : MethodName := ⟨RX12, "canOf", "(II)I"⟩
abbrev cX12_can : ByteArray := prog_14_method_73_code
def yX12_can : MethodName := ⟨RX12, "can", "(I)I"⟩
abbrev cX12_choose_ : ByteArray := prog_14_method_74_code
def yX12_choose_ : MethodName := ⟨RX12, "choose", "(I)I"⟩
abbrev cX12_blind : ByteArray := prog_14_method_75_code
def yX12_blind : MethodName := ⟨RX12, "blind", "(I)I"⟩
abbrev cX12_wayIn : ByteArray := prog_14_method_76_code
def yX12_wayIn : MethodName := ⟨RX12, "wayIn", "(I)I"⟩
abbrev cX12_told : ByteArray := prog_14_method_77_code
def yX12_told : MethodName := ⟨RX12, "told", "(III)I"⟩
abbrev cX12_many : ByteArray := prog_14_method_78_code
def yX12_many : MethodName := ⟨RX12, "many", "(II)I"⟩
abbrev cX12_mayOf : ByteArray := prog_14_method_79_code
def yX12_mayOf : MethodName := ⟨RX12, "mayOf", "(III)I"⟩
abbrev cX12_may : ByteArray := prog_14_method_80_code
def yX12_may : MethodName := ⟨RX12, "may", "(III)I"⟩
abbrev cX12_must : ByteArray := prog_14_method_81_code
def yX12_must : MethodName := ⟨RX12, "must", "(III)I"⟩
abbrev cX12_takeDeeds : ByteArray := prog_14_method_82_code
def yX12_takeDeeds : MethodName := ⟨RX12, "takeDeeds", "(I)Z"⟩
abbrev cX12_named : ByteArray := prog_14_method_83_code
def yX12_named : MethodName := ⟨RX12, "named", "(I)I"⟩
abbrev cX12_findCans : ByteArray := prog_14_method_84_code
def yX12_findCans : MethodName := ⟨RX12, "findCans", "(I)Z"⟩
abbrev cX12_findQuarrel : ByteArray := prog_14_method_85_code
def yX12_findQuarrel : MethodName := ⟨RX12, "findQuarrel", "(I)Z"⟩
abbrev cX12_quarrel : ByteArray := prog_14_method_86_code
def yX12_quarrel : MethodName := ⟨RX12, "quarrel", "(I)I"⟩
abbrev cX12_small : ByteArray := prog_14_method_87_code
def yX12_small : MethodName := ⟨RX12, "small", "(I)I"⟩
abbrev cX12_weightOf : ByteArray := prog_14_method_88_code
def yX12_weightOf : MethodName := ⟨RX12, "weightOf", "(I)I"⟩
abbrev cX12_findDoubt : ByteArray := prog_14_method_89_code
def yX12_findDoubt : MethodName := ⟨RX12, "findDoubt", "(I)Z"⟩
abbrev cX12_doubt : ByteArray := prog_14_method_90_code
def yX12_doubt : MethodName := ⟨RX12, "doubt", "(I)I"⟩
abbrev cX12_drops : ByteArray := prog_14_method_91_code
def yX12_drops : MethodName := ⟨RX12, "drops", "(I)I"⟩
abbrev cX12_rival : ByteArray := prog_14_method_92_code
def yX12_rival : MethodName := ⟨RX12, "rival", "(I)I"⟩
abbrev cX12_word : ByteArray := prog_14_method_93_code
def yX12_word : MethodName := ⟨RX12, "word", "(II)I"⟩
abbrev cX12_findSettle : ByteArray := prog_14_method_94_code
def yX12_findSettle : MethodName := ⟨RX12, "findSettle", "(I)Z"⟩
abbrev cX12_settle : ByteArray := prog_14_method_95_code
def yX12_settle : MethodName := ⟨RX12, "settle", "(I)I"⟩
abbrev cX12_left : ByteArray := prog_14_method_96_code
def yX12_left : MethodName := ⟨RX12, "left", "(I)I"⟩
abbrev cX12_ring : ByteArray := prog_14_method_97_code
def yX12_ring : MethodName := ⟨RX12, "ring", "(II)I"⟩
abbrev cX12_rank : ByteArray := prog_14_method_98_code
def yX12_rank : MethodName := ⟨RX12, "rank", "(III)I"⟩
abbrev cX12_up : ByteArray := prog_14_method_99_code
def yX12_up : MethodName := ⟨RX12, "up", "(I)I"⟩
abbrev cX12_beyond : ByteArray := prog_14_method_100_code
def yX12_beyond : MethodName := ⟨RX12, "beyond", "(I)I"⟩
abbrev cX12_newCell : ByteArray := prog_14_method_101_code
def yX12_newCell : MethodName := ⟨RX12, "newCell", "(II)V"⟩
abbrev cX12_newMates : ByteArray := prog_14_method_102_code
def yX12_newMates : MethodName := ⟨RX12, "newMates", "(II)V"⟩
abbrev cX12_lay : ByteArray := prog_14_method_103_code
def yX12_lay : MethodName := ⟨RX12, "lay", "(I)I"⟩
abbrev cX12_cell : ByteArray := prog_14_method_104_code
def yX12_cell : MethodName := ⟨RX12, "cell", "(II)I"⟩
abbrev cX12_mate : ByteArray := prog_14_method_105_code
def yX12_mate : MethodName := ⟨RX12, "mate", "(I)I"⟩
abbrev cX12_wayBy : ByteArray := prog_14_method_106_code
def yX12_wayBy : MethodName := ⟨RX12, "wayBy", "(ZZZZZZ)I"⟩
abbrev cX12_laid : ByteArray := prog_14_method_107_code
def yX12_laid : MethodName := ⟨RX12, "laid", "(II)I"⟩
abbrev cX12_ground : ByteArray := prog_14_method_108_code
def yX12_ground : MethodName := ⟨RX12, "ground", "(II)I"⟩
abbrev cX12_groundOf : ByteArray := prog_14_method_109_code
def yX12_groundOf : MethodName := ⟨RX12, "groundOf", "(I)J"⟩
abbrev cX12_near : ByteArray := prog_14_method_110_code
def yX12_near : MethodName := ⟨RX12, "near", "(J)J"⟩
abbrev cX12_wayOf : ByteArray := prog_14_method_111_code
def yX12_wayOf : MethodName := ⟨RX12, "wayOf", "(JJ)I"⟩
abbrev cX12_lies : ByteArray := prog_14_method_112_code
def yX12_lies : MethodName := ⟨RX12, "lies", "(II)I"⟩
abbrev cX12_isSo : ByteArray := prog_14_method_113_code
def yX12_isSo : MethodName := ⟨RX12, "isSo", "(I)Z"⟩
abbrev cX12_judge : ByteArray := prog_14_method_114_code
def yX12_judge : MethodName := ⟨RX12, "judge", "(I)I"⟩
abbrev cX12_reached : ByteArray := prog_14_method_115_code
def yX12_reached : MethodName := ⟨RX12, "reached", "(JJ)J"⟩
abbrev cX12_right : ByteArray := prog_14_method_116_code
def yX12_right : MethodName := ⟨RX12, "right", "(I)I"⟩
abbrev cX12_whole : ByteArray := prog_14_method_117_code
def yX12_whole : MethodName := ⟨RX12, "whole", "(II)I"⟩
abbrev cX12_below : ByteArray := prog_14_method_118_code
def yX12_below : MethodName := ⟨RX12, "below", "(I)I"⟩
abbrev cX12_box : ByteArray := prog_14_method_119_code
def yX12_box : MethodName := ⟨RX12, "box", "()J"⟩
abbrev cX12_draw : ByteArray := prog_14_method_120_code
def yX12_draw : MethodName := ⟨RX12, "draw", "(I)I"⟩
abbrev cX12_found : ByteArray := prog_14_method_121_code
def yX12_found : MethodName := ⟨RX12, "found", "(II)I"⟩
abbrev cX12_seed : ByteArray := prog_14_method_122_code
def yX12_seed : MethodName := ⟨RX12, "seed", "(I)I"⟩
abbrev cX12_begin : ByteArray := prog_14_method_123_code
def yX12_begin : MethodName := ⟨RX12, "begin", "(I)I"⟩
abbrev cX12_step : ByteArray := prog_14_method_124_code
def yX12_step : MethodName := ⟨RX12, "step", "(I)I"⟩
abbrev cX12_search_ : ByteArray := prog_14_method_125_code
def yX12_search_ : MethodName := ⟨RX12, "search", "(I)I"⟩
abbrev cX12_over : ByteArray := prog_14_method_126_code
def yX12_over : MethodName := ⟨RX12, "over", "([I[I)V"⟩
abbrev cX12_takeSearch : ByteArray := prog_14_method_127_code
def yX12_takeSearch : MethodName := ⟨RX12, "takeSearch", "(LDeedCourtModel;)V"⟩
abbrev cX12_takeFrom : ByteArray := prog_14_method_128_code
def yX12_takeFrom : MethodName := ⟨RX12, "takeFrom", "(LDeedCourtModel;)V"⟩
abbrev cX12_image : ByteArray := prog_14_method_129_code
def yX12_image : MethodName := ⟨RX12, "image", "()I"⟩
abbrev cX12_back : ByteArray := prog_14_method_130_code
def yX12_back : MethodName := ⟨RX12, "back", "()I"⟩
abbrev cX12_status : ByteArray := prog_14_method_131_code
def yX12_status : MethodName := ⟨RX12, "status", "(I)I"⟩
def RJ6 : String := "java/lang/Integer"
def TJ6 : u_T := fun k => match k with
  | _ => ("", "", "", false)
def tyJ6 : Nat → FieldType := fun k => match k with
  | _ => .int
theorem nmJ6 : ∀ a, a < 0 → ∀ b, b < 0 → a ≠ b → (TJ6 a).2.1 ≠ (TJ6 b).2.1 := by decide +kernel
theorem tyJ6_ok : ∀ k, k < 0 → parseFieldDescriptor (TJ6 k).2.2.1 = some (tyJ6 k) := by decide +kernel
abbrev cJ6_bitCount_0f7a4 : ByteArray := prog_15_method_49_code
def yJ6_bitCount_0f7a4 : MethodName := ⟨RJ6, "bitCount", "(I)I"⟩
def RJ13 : String := "java/lang/Long"
def TJ13 : u_T := fun k => match k with
  | _ => ("", "", "", false)
def tyJ13 : Nat → FieldType := fun k => match k with
  | _ => .int
theorem nmJ13 : ∀ a, a < 0 → ∀ b, b < 0 → a ≠ b → (TJ13 a).2.1 ≠ (TJ13 b).2.1 := by decide +kernel
theorem tyJ13_ok : ∀ k, k < 0 → parseFieldDescriptor (TJ13 k).2.2.1 = some (tyJ13 k) := by decide +kernel
abbrev cJ13_bitCount_95d88 : ByteArray := prog_16_method_50_code
def yJ13_bitCount_95d88 : MethodName := ⟨RJ13, "bitCount", "(J)I"⟩
def RJ9 : String := "java/lang/Math"
def TJ9 : u_T := fun k => match k with
  | _ => ("", "", "", false)
def tyJ9 : Nat → FieldType := fun k => match k with
  | _ => .int
theorem nmJ9 : ∀ a, a < 0 → ∀ b, b < 0 → a ≠ b → (TJ9 a).2.1 ≠ (TJ9 b).2.1 := by decide +kernel
theorem tyJ9_ok : ∀ k, k < 0 → parseFieldDescriptor (TJ9 k).2.2.1 = some (tyJ9 k) := by decide +kernel
abbrev cJ9_max_7cf53 : ByteArray := prog_17_method_65_code
def yJ9_max_7cf53 : MethodName := ⟨RJ9, "max", "(II)I"⟩
abbrev cJ9_min_7cf53 : ByteArray := prog_17_method_69_code
def yJ9_min_7cf53 : MethodName := ⟨RJ9, "min", "(II)I"⟩
def RJ0 : String := "java/lang/String"
def TJ0 : u_T := fun k => match k with
  | _ => ("", "", "", false)
def tyJ0 : Nat → FieldType := fun k => match k with
  | _ => .int
theorem nmJ0 : ∀ a, a < 0 → ∀ b, b < 0 → a ≠ b → (TJ0 a).2.1 ≠ (TJ0 b).2.1 := by decide +kernel
theorem tyJ0_ok : ∀ k, k < 0 → parseFieldDescriptor (TJ0 k).2.2.1 = some (tyJ0 k) := by decide +kernel
abbrev cJ0_length_8abf5 : ByteArray := prog_18_method_54_code
def yJ0_length_8abf5 : MethodName := ⟨RJ0, "length", "()I"⟩
abbrev cJ0_charAt_5068e : ByteArray := prog_18_method_56_code
def yJ0_charAt_5068e : MethodName := ⟨RJ0, "charAt", "(I)C"⟩
abbrev cJ0_coder_7d493 : ByteArray := prog_18_method_152_code
def yJ0_coder_7d493 : MethodName := ⟨RJ0, "coder", "()B"⟩
abbrev cJ0_isLatin1_aae02 : ByteArray := prog_18_method_154_code
def yJ0_isLatin1_aae02 : MethodName := ⟨RJ0, "isLatin1", "()Z"⟩
abbrev cJ0_checkIndex_df160 : ByteArray := prog_18_method_155_code
def yJ0_checkIndex_df160 : MethodName := ⟨RJ0, "checkIndex", "(II)V"⟩
def RJ1 : String := "java/lang/StringLatin1"
def TJ1 : u_T := fun k => match k with
  | _ => ("", "", "", false)
def tyJ1 : Nat → FieldType := fun k => match k with
  | _ => .int
theorem nmJ1 : ∀ a, a < 0 → ∀ b, b < 0 → a ≠ b → (TJ1 a).2.1 ≠ (TJ1 b).2.1 := by decide +kernel
theorem tyJ1_ok : ∀ k, k < 0 → parseFieldDescriptor (TJ1 k).2.2.1 = some (tyJ1 k) := by decide +kernel
abbrev cJ1_charAt_3b067 : ByteArray := prog_19_method_2_code
def yJ1_charAt_3b067 : MethodName := ⟨RJ1, "charAt", "([BI)C"⟩
def RJ2 : String := "java/lang/StringUTF16"
def TJ2 : u_T := fun k => match k with
  | _ => ("", "", "", false)
def tyJ2 : Nat → FieldType := fun k => match k with
  | _ => .int
theorem nmJ2 : ∀ a, a < 0 → ∀ b, b < 0 → a ≠ b → (TJ2 a).2.1 ≠ (TJ2 b).2.1 := by decide +kernel
theorem tyJ2_ok : ∀ k, k < 0 → parseFieldDescriptor (TJ2 k).2.2.1 = some (tyJ2 k) := by decide +kernel
abbrev cJ2_getChar_3b067 : ByteArray := prog_20_method_5_code
def yJ2_getChar_3b067 : MethodName := ⟨RJ2, "getChar", "([BI)C"⟩
abbrev cJ2_length_9d52b : ByteArray := prog_20_method_6_code
def yJ2_length_9d52b : MethodName := ⟨RJ2, "length", "([B)I"⟩
abbrev cJ2_charAt_3b067 : ByteArray := prog_20_method_83_code
def yJ2_charAt_3b067 : MethodName := ⟨RJ2, "charAt", "([BI)C"⟩
abbrev cJ2_checkIndex_2214a : ByteArray := prog_20_method_91_code
def yJ2_checkIndex_2214a : MethodName := ⟨RJ2, "checkIndex", "(I[B)V"⟩
def RJ10 : String := "java/lang/System"
def TJ10 : u_T := fun k => match k with
  | _ => ("", "", "", false)
def tyJ10 : Nat → FieldType := fun k => match k with
  | _ => .int
theorem nmJ10 : ∀ a, a < 0 → ∀ b, b < 0 → a ≠ b → (TJ10 a).2.1 ≠ (TJ10 b).2.1 := by decide +kernel
theorem tyJ10_ok : ∀ k, k < 0 → parseFieldDescriptor (TJ10 k).2.2.1 = some (tyJ10 k) := by decide +kernel
def RJ3 : String := "jdk/internal/util/Preconditions"
def TJ3 : u_T := fun k => match k with
  | _ => ("", "", "", false)
def tyJ3 : Nat → FieldType := fun k => match k with
  | _ => .int
theorem nmJ3 : ∀ a, a < 0 → ∀ b, b < 0 → a ≠ b → (TJ3 a).2.1 ≠ (TJ3 b).2.1 := by decide +kernel
theorem tyJ3_ok : ∀ k, k < 0 → parseFieldDescriptor (TJ3 k).2.2.1 = some (tyJ3 k) := by decide +kernel
abbrev cJ3_checkIndex_8e157 : ByteArray := prog_22_method_11_code
def yJ3_checkIndex_8e157 : MethodName := ⟨RJ3, "checkIndex", "(IILjava/util/function/BiFunction;)I"⟩
def RL : String := "DeedCourtLaw"
abbrev cL_law : ByteArray := code
def yL_law : MethodName := ⟨RL, "law", "([I)Z"⟩
abbrev vwCl : List vw_C := [(RX0, TX0, 2), (RX1, TX1, 9), (RX2, TX2, 5), (RX3, TX3, 10), (RX4, TX4, 3), (RX5, TX5, 7), (RX6, TX6, 9), (RX7, TX7, 10), (RX8, TX8, 4), (RX9, TX9, 6), (RX10, TX10, 2), (RX11, TX11, 10), (RX12, TX12, 67)]
