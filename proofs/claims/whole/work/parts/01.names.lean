-- ===== PART A: goes FIRST, ahead of the names: the tables' words, and 'selects' of the private methods out of them =====
/-- a private method of a class that the tables say can be made, by its rows of tables_1 -/
def lw_okq (q : MethodName × Nat) : Prop := (q.1.cls ≠ "java/lang/invoke/MethodHandle" ∧ q.1.cls ≠ "java/lang/invoke/VarHandle") ∧ Cond.instantiable q.1.cls q.2 ∈ tables_1 ∧ Cond.privateMethod q.1 ∈ tables_1 ∧ Cond.instanceMethod q.1 ∈ tables_1
theorem lw_p0 : lw_okq (⟨"TowField", "found", "(I)I"⟩, 8) := ⟨⟨by decide +kernel, by decide +kernel⟩, List.mem_of_getElem? (i := 23) (by decide +kernel), List.mem_of_getElem? (i := 388) (by decide +kernel), List.mem_of_getElem? (i := 389) (by decide +kernel)⟩
theorem lw_p1 : lw_okq (⟨"TowField", "mayBeAlong", "(II)Z"⟩, 8) := ⟨⟨by decide +kernel, by decide +kernel⟩, List.mem_of_getElem? (i := 23) (by decide +kernel), List.mem_of_getElem? (i := 547) (by decide +kernel), List.mem_of_getElem? (i := 548) (by decide +kernel)⟩
theorem lw_p2 : lw_okq (⟨"TowField$World", "isBarredBy", "(II)Z"⟩, 13) := ⟨⟨by decide +kernel, by decide +kernel⟩, List.mem_of_getElem? (i := 53) (by decide +kernel), List.mem_of_getElem? (i := 596) (by decide +kernel), List.mem_of_getElem? (i := 597) (by decide +kernel)⟩
theorem lw_p3 : lw_okq (⟨"TowField$Texts", "step", "(II)I"⟩, 4) := ⟨⟨by decide +kernel, by decide +kernel⟩, List.mem_of_getElem? (i := 31) (by decide +kernel), List.mem_of_getElem? (i := 604) (by decide +kernel), List.mem_of_getElem? (i := 605) (by decide +kernel)⟩
theorem lw_p4 : lw_okq (⟨"TowField$Texts", "push", "(II)I"⟩, 4) := ⟨⟨by decide +kernel, by decide +kernel⟩, List.mem_of_getElem? (i := 31) (by decide +kernel), List.mem_of_getElem? (i := 608) (by decide +kernel), List.mem_of_getElem? (i := 609) (by decide +kernel)⟩
theorem lw_p5 : lw_okq (⟨"TowField$World", "whyNotWith", "(I)I"⟩, 13) := ⟨⟨by decide +kernel, by decide +kernel⟩, List.mem_of_getElem? (i := 53) (by decide +kernel), List.mem_of_getElem? (i := 619) (by decide +kernel), List.mem_of_getElem? (i := 620) (by decide +kernel)⟩
theorem lw_p6 : lw_okq (⟨"TowField$World", "whyNotBy", "(I)I"⟩, 13) := ⟨⟨by decide +kernel, by decide +kernel⟩, List.mem_of_getElem? (i := 53) (by decide +kernel), List.mem_of_getElem? (i := 624) (by decide +kernel), List.mem_of_getElem? (i := 625) (by decide +kernel)⟩
theorem lw_p7 : lw_okq (⟨"TowField$World", "isRecent", "(I)Z"⟩, 13) := ⟨⟨by decide +kernel, by decide +kernel⟩, List.mem_of_getElem? (i := 53) (by decide +kernel), List.mem_of_getElem? (i := 632) (by decide +kernel), List.mem_of_getElem? (i := 633) (by decide +kernel)⟩
theorem lw_p8 : lw_okq (⟨"TowField$World", "whyNotIn", "(II)I"⟩, 13) := ⟨⟨by decide +kernel, by decide +kernel⟩, List.mem_of_getElem? (i := 53) (by decide +kernel), List.mem_of_getElem? (i := 636) (by decide +kernel), List.mem_of_getElem? (i := 637) (by decide +kernel)⟩
theorem lw_p9 : lw_okq (⟨"TowField$World", "hasGear", "(I)Z"⟩, 13) := ⟨⟨by decide +kernel, by decide +kernel⟩, List.mem_of_getElem? (i := 53) (by decide +kernel), List.mem_of_getElem? (i := 645) (by decide +kernel), List.mem_of_getElem? (i := 646) (by decide +kernel)⟩
theorem lw_p10 : lw_okq (⟨"TowField$World", "lands", "()I"⟩, 13) := ⟨⟨by decide +kernel, by decide +kernel⟩, List.mem_of_getElem? (i := 53) (by decide +kernel), List.mem_of_getElem? (i := 679) (by decide +kernel), List.mem_of_getElem? (i := 680) (by decide +kernel)⟩
theorem lw_p11 : lw_okq (⟨"TowField$World", "starts", "(I)I"⟩, 13) := ⟨⟨by decide +kernel, by decide +kernel⟩, List.mem_of_getElem? (i := 53) (by decide +kernel), List.mem_of_getElem? (i := 688) (by decide +kernel), List.mem_of_getElem? (i := 689) (by decide +kernel)⟩
theorem lw_p12 : lw_okq (⟨"TowField$World", "isFetched", "()I"⟩, 13) := ⟨⟨by decide +kernel, by decide +kernel⟩, List.mem_of_getElem? (i := 53) (by decide +kernel), List.mem_of_getElem? (i := 693) (by decide +kernel), List.mem_of_getElem? (i := 694) (by decide +kernel)⟩
theorem lw_p13 : lw_okq (⟨"TowField$Tape", "advance", "()V"⟩, 8) := ⟨⟨by decide +kernel, by decide +kernel⟩, List.mem_of_getElem? (i := 321) (by decide +kernel), List.mem_of_getElem? (i := 721) (by decide +kernel), List.mem_of_getElem? (i := 722) (by decide +kernel)⟩
theorem lw_p14 : lw_okq (⟨"TowField$Tape", "behindAll", "(III)I"⟩, 8) := ⟨⟨by decide +kernel, by decide +kernel⟩, List.mem_of_getElem? (i := 321) (by decide +kernel), List.mem_of_getElem? (i := 725) (by decide +kernel), List.mem_of_getElem? (i := 726) (by decide +kernel)⟩
theorem lw_p15 : lw_okq (⟨"TowField$Tape", "takeWord", "()V"⟩, 8) := ⟨⟨by decide +kernel, by decide +kernel⟩, List.mem_of_getElem? (i := 321) (by decide +kernel), List.mem_of_getElem? (i := 730) (by decide +kernel), List.mem_of_getElem? (i := 731) (by decide +kernel)⟩
def lw_privs_1 : List (MethodName × Nat) := [(⟨"TowField", "found", "(I)I"⟩, 8), (⟨"TowField", "mayBeAlong", "(II)Z"⟩, 8), (⟨"TowField$World", "isBarredBy", "(II)Z"⟩, 13), (⟨"TowField$Texts", "step", "(II)I"⟩, 4), (⟨"TowField$Texts", "push", "(II)I"⟩, 4), (⟨"TowField$World", "whyNotWith", "(I)I"⟩, 13), (⟨"TowField$World", "whyNotBy", "(I)I"⟩, 13), (⟨"TowField$World", "isRecent", "(I)Z"⟩, 13), (⟨"TowField$World", "whyNotIn", "(II)I"⟩, 13), (⟨"TowField$World", "hasGear", "(I)Z"⟩, 13), (⟨"TowField$World", "lands", "()I"⟩, 13), (⟨"TowField$World", "starts", "(I)I"⟩, 13), (⟨"TowField$World", "isFetched", "()I"⟩, 13), (⟨"TowField$Tape", "advance", "()V"⟩, 8), (⟨"TowField$Tape", "behindAll", "(III)I"⟩, 8), (⟨"TowField$Tape", "takeWord", "()V"⟩, 8)]
theorem lw_r1 : ∀ q ∈ lw_privs_1, lw_okq q := List.forall_mem_cons.mpr ⟨lw_p0, List.forall_mem_cons.mpr ⟨lw_p1, List.forall_mem_cons.mpr ⟨lw_p2, List.forall_mem_cons.mpr ⟨lw_p3, List.forall_mem_cons.mpr ⟨lw_p4, List.forall_mem_cons.mpr ⟨lw_p5, List.forall_mem_cons.mpr ⟨lw_p6, List.forall_mem_cons.mpr ⟨lw_p7, List.forall_mem_cons.mpr ⟨lw_p8, List.forall_mem_cons.mpr ⟨lw_p9, List.forall_mem_cons.mpr ⟨lw_p10, List.forall_mem_cons.mpr ⟨lw_p11, List.forall_mem_cons.mpr ⟨lw_p12, List.forall_mem_cons.mpr ⟨lw_p13, List.forall_mem_cons.mpr ⟨lw_p14, List.forall_mem_cons.mpr ⟨lw_p15, fun _ h => absurd h List.not_mem_nil⟩⟩⟩⟩⟩⟩⟩⟩⟩⟩⟩⟩⟩⟩⟩⟩
theorem lw_p16 : lw_okq (⟨"TowField$Tape", "isWord", "(Ljava/lang/String;)Z"⟩, 8) := ⟨⟨by decide +kernel, by decide +kernel⟩, List.mem_of_getElem? (i := 321) (by decide +kernel), List.mem_of_getElem? (i := 735) (by decide +kernel), List.mem_of_getElem? (i := 736) (by decide +kernel)⟩
theorem lw_p17 : lw_okq (⟨"TowField$Tape", "takeNumber", "()V"⟩, 8) := ⟨⟨by decide +kernel, by decide +kernel⟩, List.mem_of_getElem? (i := 321) (by decide +kernel), List.mem_of_getElem? (i := 790) (by decide +kernel), List.mem_of_getElem? (i := 791) (by decide +kernel)⟩
theorem lw_p18 : lw_okq (⟨"TowField$Tape", "readEither", "(I)Z"⟩, 8) := ⟨⟨by decide +kernel, by decide +kernel⟩, List.mem_of_getElem? (i := 321) (by decide +kernel), List.mem_of_getElem? (i := 852) (by decide +kernel), List.mem_of_getElem? (i := 853) (by decide +kernel)⟩
theorem lw_p19 : lw_okq (⟨"TowField$Tape", "readBoth", "(I)Z"⟩, 8) := ⟨⟨by decide +kernel, by decide +kernel⟩, List.mem_of_getElem? (i := 321) (by decide +kernel), List.mem_of_getElem? (i := 856) (by decide +kernel), List.mem_of_getElem? (i := 857) (by decide +kernel)⟩
theorem lw_p20 : lw_okq (⟨"TowField$Tape", "readNot", "(I)Z"⟩, 8) := ⟨⟨by decide +kernel, by decide +kernel⟩, List.mem_of_getElem? (i := 321) (by decide +kernel), List.mem_of_getElem? (i := 860) (by decide +kernel), List.mem_of_getElem? (i := 861) (by decide +kernel)⟩
theorem lw_p21 : lw_okq (⟨"TowField$Tape", "readCompared", "(I)Z"⟩, 8) := ⟨⟨by decide +kernel, by decide +kernel⟩, List.mem_of_getElem? (i := 321) (by decide +kernel), List.mem_of_getElem? (i := 864) (by decide +kernel), List.mem_of_getElem? (i := 865) (by decide +kernel)⟩
theorem lw_p22 : lw_okq (⟨"TowField$Tape", "readSum", "(I)Z"⟩, 8) := ⟨⟨by decide +kernel, by decide +kernel⟩, List.mem_of_getElem? (i := 321) (by decide +kernel), List.mem_of_getElem? (i := 868) (by decide +kernel), List.mem_of_getElem? (i := 869) (by decide +kernel)⟩
theorem lw_p23 : lw_okq (⟨"TowField$Tape", "readProduct", "(I)Z"⟩, 8) := ⟨⟨by decide +kernel, by decide +kernel⟩, List.mem_of_getElem? (i := 321) (by decide +kernel), List.mem_of_getElem? (i := 872) (by decide +kernel), List.mem_of_getElem? (i := 873) (by decide +kernel)⟩
theorem lw_p24 : lw_okq (⟨"TowField$Tape", "readSingle", "(I)Z"⟩, 8) := ⟨⟨by decide +kernel, by decide +kernel⟩, List.mem_of_getElem? (i := 321) (by decide +kernel), List.mem_of_getElem? (i := 876) (by decide +kernel), List.mem_of_getElem? (i := 877) (by decide +kernel)⟩
theorem lw_p25 : lw_okq (⟨"TowField$Tape", "put", "(I)V"⟩, 8) := ⟨⟨by decide +kernel, by decide +kernel⟩, List.mem_of_getElem? (i := 321) (by decide +kernel), List.mem_of_getElem? (i := 880) (by decide +kernel), List.mem_of_getElem? (i := 881) (by decide +kernel)⟩
theorem lw_p26 : lw_okq (⟨"TowField$Tape", "putSign", "(I)Z"⟩, 8) := ⟨⟨by decide +kernel, by decide +kernel⟩, List.mem_of_getElem? (i := 321) (by decide +kernel), List.mem_of_getElem? (i := 884) (by decide +kernel), List.mem_of_getElem? (i := 885) (by decide +kernel)⟩
theorem lw_p27 : lw_okq (⟨"TowField$World", "comeDown", "(I)V"⟩, 13) := ⟨⟨by decide +kernel, by decide +kernel⟩, List.mem_of_getElem? (i := 53) (by decide +kernel), List.mem_of_getElem? (i := 919) (by decide +kernel), List.mem_of_getElem? (i := 920) (by decide +kernel)⟩
theorem lw_p28 : lw_okq (⟨"TowField$World", "costOf", "(I)I"⟩, 13) := ⟨⟨by decide +kernel, by decide +kernel⟩, List.mem_of_getElem? (i := 53) (by decide +kernel), List.mem_of_getElem? (i := 923) (by decide +kernel), List.mem_of_getElem? (i := 924) (by decide +kernel)⟩
theorem lw_p29 : lw_okq (⟨"TowField$World", "takeOff", "(I)V"⟩, 13) := ⟨⟨by decide +kernel, by decide +kernel⟩, List.mem_of_getElem? (i := 53) (by decide +kernel), List.mem_of_getElem? (i := 934) (by decide +kernel), List.mem_of_getElem? (i := 935) (by decide +kernel)⟩
theorem lw_p30 : lw_okq (⟨"TowField$World", "useGear", "(II)V"⟩, 13) := ⟨⟨by decide +kernel, by decide +kernel⟩, List.mem_of_getElem? (i := 53) (by decide +kernel), List.mem_of_getElem? (i := 938) (by decide +kernel), List.mem_of_getElem? (i := 939) (by decide +kernel)⟩
theorem lw_p31 : lw_okq (⟨"TowField$World", "openNext", "()V"⟩, 13) := ⟨⟨by decide +kernel, by decide +kernel⟩, List.mem_of_getElem? (i := 53) (by decide +kernel), List.mem_of_getElem? (i := 961) (by decide +kernel), List.mem_of_getElem? (i := 962) (by decide +kernel)⟩
def lw_privs_2 : List (MethodName × Nat) := [(⟨"TowField$Tape", "isWord", "(Ljava/lang/String;)Z"⟩, 8), (⟨"TowField$Tape", "takeNumber", "()V"⟩, 8), (⟨"TowField$Tape", "readEither", "(I)Z"⟩, 8), (⟨"TowField$Tape", "readBoth", "(I)Z"⟩, 8), (⟨"TowField$Tape", "readNot", "(I)Z"⟩, 8), (⟨"TowField$Tape", "readCompared", "(I)Z"⟩, 8), (⟨"TowField$Tape", "readSum", "(I)Z"⟩, 8), (⟨"TowField$Tape", "readProduct", "(I)Z"⟩, 8), (⟨"TowField$Tape", "readSingle", "(I)Z"⟩, 8), (⟨"TowField$Tape", "put", "(I)V"⟩, 8), (⟨"TowField$Tape", "putSign", "(I)Z"⟩, 8), (⟨"TowField$World", "comeDown", "(I)V"⟩, 13), (⟨"TowField$World", "costOf", "(I)I"⟩, 13), (⟨"TowField$World", "takeOff", "(I)V"⟩, 13), (⟨"TowField$World", "useGear", "(II)V"⟩, 13), (⟨"TowField$World", "openNext", "()V"⟩, 13)]
theorem lw_r2 : ∀ q ∈ lw_privs_2, lw_okq q := List.forall_mem_cons.mpr ⟨lw_p16, List.forall_mem_cons.mpr ⟨lw_p17, List.forall_mem_cons.mpr ⟨lw_p18, List.forall_mem_cons.mpr ⟨lw_p19, List.forall_mem_cons.mpr ⟨lw_p20, List.forall_mem_cons.mpr ⟨lw_p21, List.forall_mem_cons.mpr ⟨lw_p22, List.forall_mem_cons.mpr ⟨lw_p23, List.forall_mem_cons.mpr ⟨lw_p24, List.forall_mem_cons.mpr ⟨lw_p25, List.forall_mem_cons.mpr ⟨lw_p26, List.forall_mem_cons.mpr ⟨lw_p27, List.forall_mem_cons.mpr ⟨lw_p28, List.forall_mem_cons.mpr ⟨lw_p29, List.forall_mem_cons.mpr ⟨lw_p30, List.forall_mem_cons.mpr ⟨lw_p31, fun _ h => absurd h List.not_mem_nil⟩⟩⟩⟩⟩⟩⟩⟩⟩⟩⟩⟩⟩⟩⟩⟩
theorem lw_p32 : lw_okq (⟨"TowFieldModel", "finding", "(I)I"⟩, 24) := ⟨⟨by decide +kernel, by decide +kernel⟩, List.mem_of_getElem? (i := 1106) (by decide +kernel), List.mem_of_getElem? (i := 1199) (by decide +kernel), List.mem_of_getElem? (i := 1200) (by decide +kernel)⟩
theorem lw_p33 : lw_okq (⟨"TowFieldModel", "is", "(II)Z"⟩, 24) := ⟨⟨by decide +kernel, by decide +kernel⟩, List.mem_of_getElem? (i := 1106) (by decide +kernel), List.mem_of_getElem? (i := 1220) (by decide +kernel), List.mem_of_getElem? (i := 1221) (by decide +kernel)⟩
theorem lw_p34 : lw_okq (⟨"TowFieldModel", "gliderOf", "(II)I"⟩, 24) := ⟨⟨by decide +kernel, by decide +kernel⟩, List.mem_of_getElem? (i := 1106) (by decide +kernel), List.mem_of_getElem? (i := 1224) (by decide +kernel), List.mem_of_getElem? (i := 1225) (by decide +kernel)⟩
theorem lw_p35 : lw_okq (⟨"TowFieldModel", "isInRow", "(I)Z"⟩, 24) := ⟨⟨by decide +kernel, by decide +kernel⟩, List.mem_of_getElem? (i := 1106) (by decide +kernel), List.mem_of_getElem? (i := 1228) (by decide +kernel), List.mem_of_getElem? (i := 1229) (by decide +kernel)⟩
theorem lw_p36 : lw_okq (⟨"TowFieldModel", "askOf", "(II)I"⟩, 24) := ⟨⟨by decide +kernel, by decide +kernel⟩, List.mem_of_getElem? (i := 1106) (by decide +kernel), List.mem_of_getElem? (i := 1232) (by decide +kernel), List.mem_of_getElem? (i := 1233) (by decide +kernel)⟩
theorem lw_p37 : lw_okq (⟨"TowFieldModel", "personOf", "(II)I"⟩, 24) := ⟨⟨by decide +kernel, by decide +kernel⟩, List.mem_of_getElem? (i := 1106) (by decide +kernel), List.mem_of_getElem? (i := 1240) (by decide +kernel), List.mem_of_getElem? (i := 1241) (by decide +kernel)⟩
theorem lw_p38 : lw_okq (⟨"TowFieldModel", "isInAir", "(I)Z"⟩, 24) := ⟨⟨by decide +kernel, by decide +kernel⟩, List.mem_of_getElem? (i := 1106) (by decide +kernel), List.mem_of_getElem? (i := 1244) (by decide +kernel), List.mem_of_getElem? (i := 1245) (by decide +kernel)⟩
theorem lw_p39 : lw_okq (⟨"TowFieldModel", "bit", "(IIZ)I"⟩, 24) := ⟨⟨by decide +kernel, by decide +kernel⟩, List.mem_of_getElem? (i := 1106) (by decide +kernel), List.mem_of_getElem? (i := 1252) (by decide +kernel), List.mem_of_getElem? (i := 1253) (by decide +kernel)⟩
theorem lw_p40 : lw_okq (⟨"TowFieldModel", "ropeIs", "(IIII)V"⟩, 24) := ⟨⟨by decide +kernel, by decide +kernel⟩, List.mem_of_getElem? (i := 1106) (by decide +kernel), List.mem_of_getElem? (i := 1268) (by decide +kernel), List.mem_of_getElem? (i := 1269) (by decide +kernel)⟩
theorem lw_p41 : lw_okq (⟨"TowFieldModel", "become", "(II)I"⟩, 24) := ⟨⟨by decide +kernel, by decide +kernel⟩, List.mem_of_getElem? (i := 1106) (by decide +kernel), List.mem_of_getElem? (i := 1287) (by decide +kernel), List.mem_of_getElem? (i := 1288) (by decide +kernel)⟩
theorem lw_p42 : lw_okq (⟨"TowFieldModel", "whyNot", "(I)I"⟩, 24) := ⟨⟨by decide +kernel, by decide +kernel⟩, List.mem_of_getElem? (i := 1106) (by decide +kernel), List.mem_of_getElem? (i := 1348) (by decide +kernel), List.mem_of_getElem? (i := 1349) (by decide +kernel)⟩
theorem lw_p43 : lw_okq (⟨"TowFieldModel", "hasPapers", "(II)Z"⟩, 24) := ⟨⟨by decide +kernel, by decide +kernel⟩, List.mem_of_getElem? (i := 1106) (by decide +kernel), List.mem_of_getElem? (i := 1352) (by decide +kernel), List.mem_of_getElem? (i := 1353) (by decide +kernel)⟩
theorem lw_p44 : lw_okq (⟨"TowFieldModel", "textOf", "(I)I"⟩, 24) := ⟨⟨by decide +kernel, by decide +kernel⟩, List.mem_of_getElem? (i := 1106) (by decide +kernel), List.mem_of_getElem? (i := 1359) (by decide +kernel), List.mem_of_getElem? (i := 1360) (by decide +kernel)⟩
theorem lw_p45 : lw_okq (⟨"TowFieldModel", "worked", "(IIII)I"⟩, 24) := ⟨⟨by decide +kernel, by decide +kernel⟩, List.mem_of_getElem? (i := 1106) (by decide +kernel), List.mem_of_getElem? (i := 1363) (by decide +kernel), List.mem_of_getElem? (i := 1364) (by decide +kernel)⟩
theorem lw_p46 : lw_okq (⟨"TowFieldModel", "hasHelp", "(I)Z"⟩, 24) := ⟨⟨by decide +kernel, by decide +kernel⟩, List.mem_of_getElem? (i := 1106) (by decide +kernel), List.mem_of_getElem? (i := 1370) (by decide +kernel), List.mem_of_getElem? (i := 1371) (by decide +kernel)⟩
theorem lw_p47 : lw_okq (⟨"TowFieldModel", "winchFor", "(I)I"⟩, 24) := ⟨⟨by decide +kernel, by decide +kernel⟩, List.mem_of_getElem? (i := 1106) (by decide +kernel), List.mem_of_getElem? (i := 1374) (by decide +kernel), List.mem_of_getElem? (i := 1375) (by decide +kernel)⟩
def lw_privs_3 : List (MethodName × Nat) := [(⟨"TowFieldModel", "finding", "(I)I"⟩, 24), (⟨"TowFieldModel", "is", "(II)Z"⟩, 24), (⟨"TowFieldModel", "gliderOf", "(II)I"⟩, 24), (⟨"TowFieldModel", "isInRow", "(I)Z"⟩, 24), (⟨"TowFieldModel", "askOf", "(II)I"⟩, 24), (⟨"TowFieldModel", "personOf", "(II)I"⟩, 24), (⟨"TowFieldModel", "isInAir", "(I)Z"⟩, 24), (⟨"TowFieldModel", "bit", "(IIZ)I"⟩, 24), (⟨"TowFieldModel", "ropeIs", "(IIII)V"⟩, 24), (⟨"TowFieldModel", "become", "(II)I"⟩, 24), (⟨"TowFieldModel", "whyNot", "(I)I"⟩, 24), (⟨"TowFieldModel", "hasPapers", "(II)Z"⟩, 24), (⟨"TowFieldModel", "textOf", "(I)I"⟩, 24), (⟨"TowFieldModel", "worked", "(IIII)I"⟩, 24), (⟨"TowFieldModel", "hasHelp", "(I)Z"⟩, 24), (⟨"TowFieldModel", "winchFor", "(I)I"⟩, 24)]
theorem lw_r3 : ∀ q ∈ lw_privs_3, lw_okq q := List.forall_mem_cons.mpr ⟨lw_p32, List.forall_mem_cons.mpr ⟨lw_p33, List.forall_mem_cons.mpr ⟨lw_p34, List.forall_mem_cons.mpr ⟨lw_p35, List.forall_mem_cons.mpr ⟨lw_p36, List.forall_mem_cons.mpr ⟨lw_p37, List.forall_mem_cons.mpr ⟨lw_p38, List.forall_mem_cons.mpr ⟨lw_p39, List.forall_mem_cons.mpr ⟨lw_p40, List.forall_mem_cons.mpr ⟨lw_p41, List.forall_mem_cons.mpr ⟨lw_p42, List.forall_mem_cons.mpr ⟨lw_p43, List.forall_mem_cons.mpr ⟨lw_p44, List.forall_mem_cons.mpr ⟨lw_p45, List.forall_mem_cons.mpr ⟨lw_p46, List.forall_mem_cons.mpr ⟨lw_p47, fun _ h => absurd h List.not_mem_nil⟩⟩⟩⟩⟩⟩⟩⟩⟩⟩⟩⟩⟩⟩⟩⟩
theorem lw_p48 : lw_okq (⟨"TowFieldModel", "planeThere", "()I"⟩, 24) := ⟨⟨by decide +kernel, by decide +kernel⟩, List.mem_of_getElem? (i := 1106) (by decide +kernel), List.mem_of_getElem? (i := 1378) (by decide +kernel), List.mem_of_getElem? (i := 1379) (by decide +kernel)⟩
theorem lw_p49 : lw_okq (⟨"TowFieldModel", "laneOf", "(I)I"⟩, 24) := ⟨⟨by decide +kernel, by decide +kernel⟩, List.mem_of_getElem? (i := 1106) (by decide +kernel), List.mem_of_getElem? (i := 1382) (by decide +kernel), List.mem_of_getElem? (i := 1383) (by decide +kernel)⟩
theorem lw_p50 : lw_okq (⟨"TowFieldModel", "spanOfAsk", "(I)I"⟩, 24) := ⟨⟨by decide +kernel, by decide +kernel⟩, List.mem_of_getElem? (i := 1106) (by decide +kernel), List.mem_of_getElem? (i := 1386) (by decide +kernel), List.mem_of_getElem? (i := 1387) (by decide +kernel)⟩
theorem lw_p51 : lw_okq (⟨"TowFieldModel", "isClear", "(II)Z"⟩, 24) := ⟨⟨by decide +kernel, by decide +kernel⟩, List.mem_of_getElem? (i := 1106) (by decide +kernel), List.mem_of_getElem? (i := 1390) (by decide +kernel), List.mem_of_getElem? (i := 1391) (by decide +kernel)⟩
theorem lw_p52 : lw_okq (⟨"TowFieldModel", "lands", "()I"⟩, 24) := ⟨⟨by decide +kernel, by decide +kernel⟩, List.mem_of_getElem? (i := 1106) (by decide +kernel), List.mem_of_getElem? (i := 1402) (by decide +kernel), List.mem_of_getElem? (i := 1403) (by decide +kernel)⟩
theorem lw_p53 : lw_okq (⟨"TowFieldModel", "dueOf", "(I)I"⟩, 24) := ⟨⟨by decide +kernel, by decide +kernel⟩, List.mem_of_getElem? (i := 1106) (by decide +kernel), List.mem_of_getElem? (i := 1406) (by decide +kernel), List.mem_of_getElem? (i := 1407) (by decide +kernel)⟩
theorem lw_p54 : lw_okq (⟨"TowFieldModel", "starts", "()I"⟩, 24) := ⟨⟨by decide +kernel, by decide +kernel⟩, List.mem_of_getElem? (i := 1106) (by decide +kernel), List.mem_of_getElem? (i := 1410) (by decide +kernel), List.mem_of_getElem? (i := 1411) (by decide +kernel)⟩
theorem lw_p55 : lw_okq (⟨"TowFieldModel", "fetches", "()I"⟩, 24) := ⟨⟨by decide +kernel, by decide +kernel⟩, List.mem_of_getElem? (i := 1106) (by decide +kernel), List.mem_of_getElem? (i := 1414) (by decide +kernel), List.mem_of_getElem? (i := 1415) (by decide +kernel)⟩
theorem lw_p56 : lw_okq (⟨"TowFieldModel", "goes", "()I"⟩, 24) := ⟨⟨by decide +kernel, by decide +kernel⟩, List.mem_of_getElem? (i := 1106) (by decide +kernel), List.mem_of_getElem? (i := 1422) (by decide +kernel), List.mem_of_getElem? (i := 1423) (by decide +kernel)⟩
theorem lw_p57 : lw_okq (⟨"TowFieldModel", "goesDown", "(I)V"⟩, 24) := ⟨⟨by decide +kernel, by decide +kernel⟩, List.mem_of_getElem? (i := 1106) (by decide +kernel), List.mem_of_getElem? (i := 1426) (by decide +kernel), List.mem_of_getElem? (i := 1427) (by decide +kernel)⟩
theorem lw_p58 : lw_okq (⟨"TowFieldModel", "costOf", "(I)I"⟩, 24) := ⟨⟨by decide +kernel, by decide +kernel⟩, List.mem_of_getElem? (i := 1106) (by decide +kernel), List.mem_of_getElem? (i := 1430) (by decide +kernel), List.mem_of_getElem? (i := 1431) (by decide +kernel)⟩
theorem lw_p59 : lw_okq (⟨"TowFieldModel", "moves", "(II)V"⟩, 24) := ⟨⟨by decide +kernel, by decide +kernel⟩, List.mem_of_getElem? (i := 1106) (by decide +kernel), List.mem_of_getElem? (i := 1435) (by decide +kernel), List.mem_of_getElem? (i := 1436) (by decide +kernel)⟩
theorem lw_p60 : lw_okq (⟨"TowFieldModel", "goesUp", "(I)V"⟩, 24) := ⟨⟨by decide +kernel, by decide +kernel⟩, List.mem_of_getElem? (i := 1106) (by decide +kernel), List.mem_of_getElem? (i := 1439) (by decide +kernel), List.mem_of_getElem? (i := 1440) (by decide +kernel)⟩
theorem lw_p61 : lw_okq (⟨"TowFieldModel", "isFetched", "(I)V"⟩, 24) := ⟨⟨by decide +kernel, by decide +kernel⟩, List.mem_of_getElem? (i := 1106) (by decide +kernel), List.mem_of_getElem? (i := 1443) (by decide +kernel), List.mem_of_getElem? (i := 1444) (by decide +kernel)⟩
theorem lw_p62 : lw_okq (⟨"TowFieldModel", "opens", "()V"⟩, 24) := ⟨⟨by decide +kernel, by decide +kernel⟩, List.mem_of_getElem? (i := 1106) (by decide +kernel), List.mem_of_getElem? (i := 1447) (by decide +kernel), List.mem_of_getElem? (i := 1448) (by decide +kernel)⟩
theorem lw_p63 : lw_okq (⟨"TowFieldModel", "goBeside", "(I)V"⟩, 24) := ⟨⟨by decide +kernel, by decide +kernel⟩, List.mem_of_getElem? (i := 1106) (by decide +kernel), List.mem_of_getElem? (i := 1455) (by decide +kernel), List.mem_of_getElem? (i := 1456) (by decide +kernel)⟩
def lw_privs_4 : List (MethodName × Nat) := [(⟨"TowFieldModel", "planeThere", "()I"⟩, 24), (⟨"TowFieldModel", "laneOf", "(I)I"⟩, 24), (⟨"TowFieldModel", "spanOfAsk", "(I)I"⟩, 24), (⟨"TowFieldModel", "isClear", "(II)Z"⟩, 24), (⟨"TowFieldModel", "lands", "()I"⟩, 24), (⟨"TowFieldModel", "dueOf", "(I)I"⟩, 24), (⟨"TowFieldModel", "starts", "()I"⟩, 24), (⟨"TowFieldModel", "fetches", "()I"⟩, 24), (⟨"TowFieldModel", "goes", "()I"⟩, 24), (⟨"TowFieldModel", "goesDown", "(I)V"⟩, 24), (⟨"TowFieldModel", "costOf", "(I)I"⟩, 24), (⟨"TowFieldModel", "moves", "(II)V"⟩, 24), (⟨"TowFieldModel", "goesUp", "(I)V"⟩, 24), (⟨"TowFieldModel", "isFetched", "(I)V"⟩, 24), (⟨"TowFieldModel", "opens", "()V"⟩, 24), (⟨"TowFieldModel", "goBeside", "(I)V"⟩, 24)]
theorem lw_r4 : ∀ q ∈ lw_privs_4, lw_okq q := List.forall_mem_cons.mpr ⟨lw_p48, List.forall_mem_cons.mpr ⟨lw_p49, List.forall_mem_cons.mpr ⟨lw_p50, List.forall_mem_cons.mpr ⟨lw_p51, List.forall_mem_cons.mpr ⟨lw_p52, List.forall_mem_cons.mpr ⟨lw_p53, List.forall_mem_cons.mpr ⟨lw_p54, List.forall_mem_cons.mpr ⟨lw_p55, List.forall_mem_cons.mpr ⟨lw_p56, List.forall_mem_cons.mpr ⟨lw_p57, List.forall_mem_cons.mpr ⟨lw_p58, List.forall_mem_cons.mpr ⟨lw_p59, List.forall_mem_cons.mpr ⟨lw_p60, List.forall_mem_cons.mpr ⟨lw_p61, List.forall_mem_cons.mpr ⟨lw_p62, List.forall_mem_cons.mpr ⟨lw_p63, fun _ h => absurd h List.not_mem_nil⟩⟩⟩⟩⟩⟩⟩⟩⟩⟩⟩⟩⟩⟩⟩⟩
theorem lw_p64 : lw_okq (⟨"TowFieldModel", "asksThat", "(I)I"⟩, 24) := ⟨⟨by decide +kernel, by decide +kernel⟩, List.mem_of_getElem? (i := 1106) (by decide +kernel), List.mem_of_getElem? (i := 1462) (by decide +kernel), List.mem_of_getElem? (i := 1463) (by decide +kernel)⟩
theorem lw_p65 : lw_okq (⟨"TowFieldModel", "nextToken", "()V"⟩, 24) := ⟨⟨by decide +kernel, by decide +kernel⟩, List.mem_of_getElem? (i := 1106) (by decide +kernel), List.mem_of_getElem? (i := 1482) (by decide +kernel), List.mem_of_getElem? (i := 1483) (by decide +kernel)⟩
theorem lw_p66 : lw_okq (⟨"TowFieldModel", "isByte", "(III)Z"⟩, 24) := ⟨⟨by decide +kernel, by decide +kernel⟩, List.mem_of_getElem? (i := 1106) (by decide +kernel), List.mem_of_getElem? (i := 1486) (by decide +kernel), List.mem_of_getElem? (i := 1487) (by decide +kernel)⟩
theorem lw_p67 : lw_okq (⟨"TowFieldModel", "either", "()V"⟩, 24) := ⟨⟨by decide +kernel, by decide +kernel⟩, List.mem_of_getElem? (i := 1106) (by decide +kernel), List.mem_of_getElem? (i := 1490) (by decide +kernel), List.mem_of_getElem? (i := 1491) (by decide +kernel)⟩
theorem lw_p68 : lw_okq (⟨"TowFieldModel", "both", "()V"⟩, 24) := ⟨⟨by decide +kernel, by decide +kernel⟩, List.mem_of_getElem? (i := 1106) (by decide +kernel), List.mem_of_getElem? (i := 1494) (by decide +kernel), List.mem_of_getElem? (i := 1495) (by decide +kernel)⟩
theorem lw_p69 : lw_okq (⟨"TowFieldModel", "not", "()V"⟩, 24) := ⟨⟨by decide +kernel, by decide +kernel⟩, List.mem_of_getElem? (i := 1106) (by decide +kernel), List.mem_of_getElem? (i := 1498) (by decide +kernel), List.mem_of_getElem? (i := 1499) (by decide +kernel)⟩
theorem lw_p70 : lw_okq (⟨"TowFieldModel", "isSign", "(I)Z"⟩, 24) := ⟨⟨by decide +kernel, by decide +kernel⟩, List.mem_of_getElem? (i := 1106) (by decide +kernel), List.mem_of_getElem? (i := 1502) (by decide +kernel), List.mem_of_getElem? (i := 1503) (by decide +kernel)⟩
theorem lw_p71 : lw_okq (⟨"TowFieldModel", "need", "(Z)V"⟩, 24) := ⟨⟨by decide +kernel, by decide +kernel⟩, List.mem_of_getElem? (i := 1106) (by decide +kernel), List.mem_of_getElem? (i := 1506) (by decide +kernel), List.mem_of_getElem? (i := 1507) (by decide +kernel)⟩
theorem lw_p72 : lw_okq (⟨"TowFieldModel", "emit", "(I)V"⟩, 24) := ⟨⟨by decide +kernel, by decide +kernel⟩, List.mem_of_getElem? (i := 1106) (by decide +kernel), List.mem_of_getElem? (i := 1510) (by decide +kernel), List.mem_of_getElem? (i := 1511) (by decide +kernel)⟩
theorem lw_p73 : lw_okq (⟨"TowFieldModel", "sum", "()V"⟩, 24) := ⟨⟨by decide +kernel, by decide +kernel⟩, List.mem_of_getElem? (i := 1106) (by decide +kernel), List.mem_of_getElem? (i := 1514) (by decide +kernel), List.mem_of_getElem? (i := 1515) (by decide +kernel)⟩
theorem lw_p74 : lw_okq (⟨"TowFieldModel", "product", "()V"⟩, 24) := ⟨⟨by decide +kernel, by decide +kernel⟩, List.mem_of_getElem? (i := 1106) (by decide +kernel), List.mem_of_getElem? (i := 1518) (by decide +kernel), List.mem_of_getElem? (i := 1519) (by decide +kernel)⟩
theorem lw_p75 : lw_okq (⟨"TowFieldModel", "part", "()V"⟩, 24) := ⟨⟨by decide +kernel, by decide +kernel⟩, List.mem_of_getElem? (i := 1106) (by decide +kernel), List.mem_of_getElem? (i := 1522) (by decide +kernel), List.mem_of_getElem? (i := 1523) (by decide +kernel)⟩
theorem lw_p76 : lw_okq (⟨"TowFieldModel", "isWord", "(Ljava/lang/String;)Z"⟩, 24) := ⟨⟨by decide +kernel, by decide +kernel⟩, List.mem_of_getElem? (i := 1106) (by decide +kernel), List.mem_of_getElem? (i := 1526) (by decide +kernel), List.mem_of_getElem? (i := 1527) (by decide +kernel)⟩
def lw_privs_5 : List (MethodName × Nat) := [(⟨"TowFieldModel", "asksThat", "(I)I"⟩, 24), (⟨"TowFieldModel", "nextToken", "()V"⟩, 24), (⟨"TowFieldModel", "isByte", "(III)Z"⟩, 24), (⟨"TowFieldModel", "either", "()V"⟩, 24), (⟨"TowFieldModel", "both", "()V"⟩, 24), (⟨"TowFieldModel", "not", "()V"⟩, 24), (⟨"TowFieldModel", "isSign", "(I)Z"⟩, 24), (⟨"TowFieldModel", "need", "(Z)V"⟩, 24), (⟨"TowFieldModel", "emit", "(I)V"⟩, 24), (⟨"TowFieldModel", "sum", "()V"⟩, 24), (⟨"TowFieldModel", "product", "()V"⟩, 24), (⟨"TowFieldModel", "part", "()V"⟩, 24), (⟨"TowFieldModel", "isWord", "(Ljava/lang/String;)Z"⟩, 24)]
theorem lw_r5 : ∀ q ∈ lw_privs_5, lw_okq q := List.forall_mem_cons.mpr ⟨lw_p64, List.forall_mem_cons.mpr ⟨lw_p65, List.forall_mem_cons.mpr ⟨lw_p66, List.forall_mem_cons.mpr ⟨lw_p67, List.forall_mem_cons.mpr ⟨lw_p68, List.forall_mem_cons.mpr ⟨lw_p69, List.forall_mem_cons.mpr ⟨lw_p70, List.forall_mem_cons.mpr ⟨lw_p71, List.forall_mem_cons.mpr ⟨lw_p72, List.forall_mem_cons.mpr ⟨lw_p73, List.forall_mem_cons.mpr ⟨lw_p74, List.forall_mem_cons.mpr ⟨lw_p75, List.forall_mem_cons.mpr ⟨lw_p76, fun _ h => absurd h List.not_mem_nil⟩⟩⟩⟩⟩⟩⟩⟩⟩⟩⟩⟩⟩
def lw_privs : List (MethodName × Nat) := lw_privs_1 ++ (lw_privs_2 ++ (lw_privs_3 ++ (lw_privs_4 ++ (lw_privs_5))))
def lw_tbl : List Cond := k2_sels lw_privs ++ tables_1
theorem lw_privs_ok : ∀ q ∈ lw_privs, lw_okq q := by
  show ∀ q ∈ lw_privs_1 ++ (lw_privs_2 ++ (lw_privs_3 ++ (lw_privs_4 ++ (lw_privs_5)))), lw_okq q
  exact List.forall_mem_append.mpr ⟨lw_r1, List.forall_mem_append.mpr ⟨lw_r2, List.forall_mem_append.mpr ⟨lw_r3, List.forall_mem_append.mpr ⟨lw_r4, lw_r5⟩⟩⟩⟩
/-! ===== BEGIN words of one list among another's, by their places ===== -/
theorem goodIn_r {big : List Cond} (ws : List Cond) (ps : List Nat) (hp : ws = ps.filterMap (fun i => big[i]?)) (h : ws.all goodWord = true) : GoodIn big ws := by
  intro w hw
  have h1 := List.all_eq_true.mp h w hw
  rw [hp] at hw
  obtain ⟨i, -, hi⟩ := List.mem_filterMap.mp hw
  have hm : w ∈ big := by first | exact List.mem_of_getElem? hi | exact List.getElem?_mem hi
  exact ⟨hm, good_of_word h1⟩
theorem goodIn_app {big a b : List Cond} (ha : GoodIn big a) (hb : GoodIn big b) : GoodIn big (a ++ b) := fun w h => (List.mem_append.mp h).elim (ha w) (hb w)
theorem goodIn_ca {big a b : List Cond} {c : Cond} (ha : GoodIn big (c :: a)) (hb : GoodIn big b) : GoodIn big (c :: (a ++ b)) := fun w h => (List.mem_cons.mp h).elim (fun e => ha w (List.mem_cons.mpr (Or.inl e))) (fun h => (List.mem_append.mp h).elim (fun h => ha w (List.mem_cons.mpr (Or.inr h))) (hb w))
theorem goodIn_sub {big ws : List Cond} (hm : ∀ w ∈ ws, w ∈ big) (h : ws.all goodWord = true) : GoodIn big ws := fun w hw => ⟨hm w hw, good_of_word (List.all_eq_true.mp h w hw)⟩
/-! ===== END ===== -/

/-! ===== BEGIN printed: names, fields, word lists, decode rows ===== -/
def RX0 : String := "TowField$Asks"
def TX0 : u_T := fun k => match k with
  | 0 => ("TowField$Asks", "who", "[I", true)
  | 1 => ("TowField$Asks", "along", "[I", true)
  | 2 => ("TowField$Asks", "glider", "[I", true)
  | 3 => ("TowField$Asks", "kind", "[I", true)
  | 4 => ("TowField$Asks", "height", "[I", true)
  | 5 => ("TowField$Asks", "minutes", "[I", true)
  | 6 => ("TowField$Asks", "laneUse", "[I", true)
  | 7 => ("TowField$Asks", "onLane", "[I", true)
  | 8 => ("TowField$Asks", "state", "[I", true)
  | 9 => ("TowField$Asks", "started", "[I", true)
  | 10 => ("TowField$Asks", "cameDown", "[I", true)
  | 11 => ("TowField$Asks", "cost", "[I", true)
  | _ => ("TowField$Asks", "size", "I", false)
def tyX0 : Nat → FieldType := fun k => match k with
  | 0 => .array .int
  | 1 => .array .int
  | 2 => .array .int
  | 3 => .array .int
  | 4 => .array .int
  | 5 => .array .int
  | 6 => .array .int
  | 7 => .array .int
  | 8 => .array .int
  | 9 => .array .int
  | 10 => .array .int
  | 11 => .array .int
  | _ => .int
abbrev wsX00 : List Cond := u_ws RX0 TX0 13
theorem nmX0 : ∀ a, a < 13 → ∀ b, b < 13 → a ≠ b → (TX0 a).2.1 ≠ (TX0 b).2.1 := by decide +kernel
theorem tyX0_ok : ∀ k, k < 13 → parseFieldDescriptor (TX0 k).2.2.1 = some (tyX0 k) := by decide +kernel
abbrev cX0_init : ByteArray := prog_2_method_1_code
def yX0_init : MethodName := ⟨RX0, "<init>", "()V"⟩
abbrev cX0_has : ByteArray := prog_2_method_2_code
def yX0_has : MethodName := ⟨RX0, "has", "(I)Z"⟩
abbrev cX0_add : ByteArray := prog_2_method_3_code
def yX0_add : MethodName := ⟨RX0, "add", "(IIIII)I"⟩
abbrev cX0_tell : ByteArray := prog_2_method_4_code
def yX0_tell : MethodName := ⟨RX0, "tell", "(II)I"⟩
abbrev cX0_thatAre : ByteArray := prog_2_method_5_code
def yX0_thatAre : MethodName := ⟨RX0, "thatAre", "(I)I"⟩
abbrev cX0_crew : ByteArray := prog_2_method_6_code
def yX0_crew : MethodName := ⟨RX0, "crew", "(I)I"⟩
abbrev cX0_firstDue : ByteArray := prog_2_method_7_code
def yX0_firstDue : MethodName := ⟨RX0, "firstDue", "(II)I"⟩
abbrev cX0_become : ByteArray := prog_2_method_8_code
def yX0_become : MethodName := ⟨RX0, "become", "(LTowField$Asks;)V"⟩
def RX1 : String := "TowField$Gliders"
def TX1 : u_T := fun k => match k with
  | 0 => ("TowField$Gliders", "seats", "[I", true)
  | 1 => ("TowField$Gliders", "most", "[I", true)
  | 2 => ("TowField$Gliders", "link", "[I", true)
  | 3 => ("TowField$Gliders", "owners", "[I", true)
  | 4 => ("TowField$Gliders", "size", "I", false)
  | _ => ("TowField$Gliders", "outOfRow", "I", false)
def tyX1 : Nat → FieldType := fun k => match k with
  | 0 => .array .int
  | 1 => .array .int
  | 2 => .array .int
  | 3 => .array .int
  | 4 => .int
  | _ => .int
abbrev wsX10 : List Cond := u_ws RX1 TX1 6
theorem nmX1 : ∀ a, a < 6 → ∀ b, b < 6 → a ≠ b → (TX1 a).2.1 ≠ (TX1 b).2.1 := by decide +kernel
theorem tyX1_ok : ∀ k, k < 6 → parseFieldDescriptor (TX1 k).2.2.1 = some (tyX1 k) := by decide +kernel
abbrev cX1_init : ByteArray := prog_3_method_1_code
def yX1_init : MethodName := ⟨RX1, "<init>", "()V"⟩
abbrev cX1_has : ByteArray := prog_3_method_2_code
def yX1_has : MethodName := ⟨RX1, "has", "(I)Z"⟩
abbrev cX1_add : ByteArray := prog_3_method_3_code
def yX1_add : MethodName := ⟨RX1, "add", "(IIII)I"⟩
abbrev cX1_tell : ByteArray := prog_3_method_4_code
def yX1_tell : MethodName := ⟨RX1, "tell", "(II)I"⟩
abbrev cX1_become : ByteArray := prog_3_method_5_code
def yX1_become : MethodName := ⟨RX1, "become", "(LTowField$Gliders;)V"⟩
def RX2 : String := "TowField$Kinds"
def TX2 : u_T := fun k => match k with
  | _ => ("", "", "", false)
def tyX2 : Nat → FieldType := fun k => match k with
  | _ => .int
abbrev wsX20 : List Cond := u_ws RX2 TX2 0
theorem nmX2 : ∀ a, a < 0 → ∀ b, b < 0 → a ≠ b → (TX2 a).2.1 ≠ (TX2 b).2.1 := by decide +kernel
theorem tyX2_ok : ∀ k, k < 0 → parseFieldDescriptor (TX2 k).2.2.1 = some (tyX2 k) := by decide +kernel
abbrev cX2_has : ByteArray := prog_4_method_2_code
def yX2_has : MethodName := ⟨RX2, "has", "(I)Z"⟩
abbrev cX2_isOrUnder : ByteArray := prog_4_method_3_code
def yX2_isOrUnder : MethodName := ⟨RX2, "isOrUnder", "(II)Z"⟩
abbrev cX2_mostWind : ByteArray := prog_4_method_4_code
def yX2_mostWind : MethodName := ⟨RX2, "mostWind", "(I)I"⟩
abbrev cX2_minutesOnLane : ByteArray := prog_4_method_5_code
def yX2_minutesOnLane : MethodName := ⟨RX2, "minutesOnLane", "(II)I"⟩
def RX3 : String := "TowField$Lanes"
def TX3 : u_T := fun k => match k with
  | 0 => ("TowField$Lanes", "crosses", "[I", true)
  | 1 => ("TowField$Lanes", "laneFor", "[I", true)
  | 2 => ("TowField$Lanes", "on", "[I", true)
  | 3 => ("TowField$Lanes", "from", "[I", true)
  | 4 => ("TowField$Lanes", "end", "[I", true)
  | _ => ("TowField$Lanes", "size", "I", false)
def tyX3 : Nat → FieldType := fun k => match k with
  | 0 => .array .int
  | 1 => .array .int
  | 2 => .array .int
  | 3 => .array .int
  | 4 => .array .int
  | _ => .int
abbrev wsX30 : List Cond := u_ws RX3 TX3 6
theorem nmX3 : ∀ a, a < 6 → ∀ b, b < 6 → a ≠ b → (TX3 a).2.1 ≠ (TX3 b).2.1 := by decide +kernel
theorem tyX3_ok : ∀ k, k < 6 → parseFieldDescriptor (TX3 k).2.2.1 = some (tyX3 k) := by decide +kernel
abbrev cX3_init : ByteArray := prog_5_method_1_code
def yX3_init : MethodName := ⟨RX3, "<init>", "()V"⟩
abbrev cX3_has : ByteArray := prog_5_method_2_code
def yX3_has : MethodName := ⟨RX3, "has", "(I)Z"⟩
abbrev cX3_isClear : ByteArray := prog_5_method_3_code
def yX3_isClear : MethodName := ⟨RX3, "isClear", "(III)Z"⟩
abbrev cX3_move : ByteArray := prog_5_method_4_code
def yX3_move : MethodName := ⟨RX3, "move", "(III)V"⟩
abbrev cX3_open : ByteArray := prog_5_method_5_code
def yX3_open : MethodName := ⟨RX3, "open", "(I)V"⟩
abbrev cX3_become : ByteArray := prog_5_method_6_code
def yX3_become : MethodName := ⟨RX3, "become", "(LTowField$Lanes;)V"⟩
def RX4 : String := "TowField$People"
def TX4 : u_T := fun k => match k with
  | 0 => ("TowField$People", "weight", "[I", true)
  | 1 => ("TowField$People", "papers", "[I", true)
  | 2 => ("TowField$People", "last", "[I", true)
  | 3 => ("TowField$People", "bill", "[I", true)
  | 4 => ("TowField$People", "size", "I", false)
  | _ => ("TowField$People", "inAir", "I", false)
def tyX4 : Nat → FieldType := fun k => match k with
  | 0 => .array .int
  | 1 => .array .int
  | 2 => .array .int
  | 3 => .array .int
  | 4 => .int
  | _ => .int
abbrev wsX40 : List Cond := u_ws RX4 TX4 6
theorem nmX4 : ∀ a, a < 6 → ∀ b, b < 6 → a ≠ b → (TX4 a).2.1 ≠ (TX4 b).2.1 := by decide +kernel
theorem tyX4_ok : ∀ k, k < 6 → parseFieldDescriptor (TX4 k).2.2.1 = some (tyX4 k) := by decide +kernel
abbrev cX4_init : ByteArray := prog_6_method_1_code
def yX4_init : MethodName := ⟨RX4, "<init>", "()V"⟩
abbrev cX4_has : ByteArray := prog_6_method_2_code
def yX4_has : MethodName := ⟨RX4, "has", "(I)Z"⟩
abbrev cX4_all : ByteArray := prog_6_method_3_code
def yX4_all : MethodName := ⟨RX4, "all", "()I"⟩
abbrev cX4_add : ByteArray := prog_6_method_4_code
def yX4_add : MethodName := ⟨RX4, "add", "(II)I"⟩
abbrev cX4_tell : ByteArray := prog_6_method_5_code
def yX4_tell : MethodName := ⟨RX4, "tell", "(II)I"⟩
abbrev cX4_hasPaper : ByteArray := prog_6_method_6_code
def yX4_hasPaper : MethodName := ⟨RX4, "hasPaper", "(II)Z"⟩
abbrev cX4_bills : ByteArray := prog_6_method_7_code
def yX4_bills : MethodName := ⟨RX4, "bills", "()I"⟩
abbrev cX4_part : ByteArray := prog_6_method_8_code
def yX4_part : MethodName := ⟨RX4, "part", "(II)I"⟩
abbrev cX4_become : ByteArray := prog_6_method_9_code
def yX4_become : MethodName := ⟨RX4, "become", "(LTowField$People;)V"⟩
def RX5 : String := "TowField$Planes"
def TX5 : u_T := fun k => match k with
  | 0 => ("TowField$Planes", "till", "[I", true)
  | _ => ("TowField$Planes", "size", "I", false)
def tyX5 : Nat → FieldType := fun k => match k with
  | 0 => .array .int
  | _ => .int
abbrev wsX50 : List Cond := u_ws RX5 TX5 2
theorem nmX5 : ∀ a, a < 2 → ∀ b, b < 2 → a ≠ b → (TX5 a).2.1 ≠ (TX5 b).2.1 := by decide +kernel
theorem tyX5_ok : ∀ k, k < 2 → parseFieldDescriptor (TX5 k).2.2.1 = some (tyX5 k) := by decide +kernel
abbrev cX5_init : ByteArray := prog_7_method_1_code
def yX5_init : MethodName := ⟨RX5, "<init>", "()V"⟩
abbrev cX5_has : ByteArray := prog_7_method_2_code
def yX5_has : MethodName := ⟨RX5, "has", "(I)Z"⟩
abbrev cX5_add : ByteArray := prog_7_method_3_code
def yX5_add : MethodName := ⟨RX5, "add", "()I"⟩
abbrev cX5_firstThere : ByteArray := prog_7_method_4_code
def yX5_firstThere : MethodName := ⟨RX5, "firstThere", "()I"⟩
abbrev cX5_useOne : ByteArray := prog_7_method_5_code
def yX5_useOne : MethodName := ⟨RX5, "useOne", "(I)V"⟩
abbrev cX5_open : ByteArray := prog_7_method_6_code
def yX5_open : MethodName := ⟨RX5, "open", "(I)V"⟩
abbrev cX5_become : ByteArray := prog_7_method_7_code
def yX5_become : MethodName := ⟨RX5, "become", "(LTowField$Planes;)V"⟩
def RX6 : String := "TowField$Sheets"
def TX6 : u_T := fun k => match k with
  | 0 => ("TowField$Sheets", "bits", "[I", true)
  | 1 => ("TowField$Sheets", "size", "[I", true)
  | _ => ("TowField$Sheets", "numbers", "[[I", true)
def tyX6 : Nat → FieldType := fun k => match k with
  | 0 => .array .int
  | 1 => .array .int
  | _ => .array (.array .int)
abbrev wsX60 : List Cond := u_ws RX6 TX6 3
theorem nmX6 : ∀ a, a < 3 → ∀ b, b < 3 → a ≠ b → (TX6 a).2.1 ≠ (TX6 b).2.1 := by decide +kernel
theorem tyX6_ok : ∀ k, k < 3 → parseFieldDescriptor (TX6 k).2.2.1 = some (tyX6 k) := by decide +kernel
abbrev cX6_init : ByteArray := prog_8_method_1_code
def yX6_init : MethodName := ⟨RX6, "<init>", "()V"⟩
abbrev cX6_has : ByteArray := prog_8_method_2_code
def yX6_has : MethodName := ⟨RX6, "has", "(I)Z"⟩
abbrev cX6_isBits : ByteArray := prog_8_method_3_code
def yX6_isBits : MethodName := ⟨RX6, "isBits", "(I)Z"⟩
abbrev cX6_lowest : ByteArray := prog_8_method_4_code
def yX6_lowest : MethodName := ⟨RX6, "lowest", "(II)I"⟩
abbrev cX6_lay : ByteArray := prog_8_method_5_code
def yX6_lay : MethodName := ⟨RX6, "lay", "(III)I"⟩
abbrev cX6_hasPart : ByteArray := prog_8_method_6_code
def yX6_hasPart : MethodName := ⟨RX6, "hasPart", "(III)Z"⟩
def RX7 : String := "TowField$Tape"
def TX7 : u_T := fun k => match k with
  | 0 => ("TowField$Tape", "bytes", "[I", true)
  | 1 => ("TowField$Tape", "steps", "[I", true)
  | 2 => ("TowField$Tape", "size", "I", false)
  | 3 => ("TowField$Tape", "length", "I", false)
  | 4 => ("TowField$Tape", "at", "I", false)
  | 5 => ("TowField$Tape", "start", "I", false)
  | 6 => ("TowField$Tape", "token", "I", false)
  | _ => ("TowField$Tape", "told", "I", false)
def tyX7 : Nat → FieldType := fun k => match k with
  | 0 => .array .int
  | 1 => .array .int
  | 2 => .int
  | 3 => .int
  | 4 => .int
  | 5 => .int
  | 6 => .int
  | _ => .int
abbrev wsX70 : List Cond := u_ws RX7 TX7 8
theorem nmX7 : ∀ a, a < 8 → ∀ b, b < 8 → a ≠ b → (TX7 a).2.1 ≠ (TX7 b).2.1 := by decide +kernel
theorem tyX7_ok : ∀ k, k < 8 → parseFieldDescriptor (TX7 k).2.2.1 = some (tyX7 k) := by decide +kernel
abbrev cX7_init : ByteArray := prog_9_method_1_code
def yX7_init : MethodName := ⟨RX7, "<init>", "()V"⟩
abbrev cX7_add : ByteArray := prog_9_method_2_code
def yX7_add : MethodName := ⟨RX7, "add", "(I)V"⟩
abbrev cX7_read : ByteArray := prog_9_method_3_code
def yX7_read : MethodName := ⟨RX7, "read", "()I"⟩
abbrev cX7_readEither : ByteArray := prog_9_method_4_code
def yX7_readEither : MethodName := ⟨RX7, "readEither", "(I)Z"⟩
abbrev cX7_readBoth : ByteArray := prog_9_method_5_code
def yX7_readBoth : MethodName := ⟨RX7, "readBoth", "(I)Z"⟩
abbrev cX7_readNot : ByteArray := prog_9_method_6_code
def yX7_readNot : MethodName := ⟨RX7, "readNot", "(I)Z"⟩
abbrev cX7_readCompared : ByteArray := prog_9_method_7_code
def yX7_readCompared : MethodName := ⟨RX7, "readCompared", "(I)Z"⟩
abbrev cX7_readSum : ByteArray := prog_9_method_8_code
def yX7_readSum : MethodName := ⟨RX7, "readSum", "(I)Z"⟩
abbrev cX7_readProduct : ByteArray := prog_9_method_9_code
def yX7_readProduct : MethodName := ⟨RX7, "readProduct", "(I)Z"⟩
abbrev cX7_readSingle : ByteArray := prog_9_method_10_code
def yX7_readSingle : MethodName := ⟨RX7, "readSingle", "(I)Z"⟩
abbrev cX7_putSign : ByteArray := prog_9_method_11_code
def yX7_putSign : MethodName := ⟨RX7, "putSign", "(I)Z"⟩
abbrev cX7_put : ByteArray := prog_9_method_12_code
def yX7_put : MethodName := ⟨RX7, "put", "(I)V"⟩
abbrev cX7_advance : ByteArray := prog_9_method_13_code
def yX7_advance : MethodName := ⟨RX7, "advance", "()V"⟩
abbrev cX7_behindAll : ByteArray := prog_9_method_14_code
def yX7_behindAll : MethodName := ⟨RX7, "behindAll", "(III)I"⟩
abbrev cX7_takeNumber : ByteArray := prog_9_method_15_code
def yX7_takeNumber : MethodName := ⟨RX7, "takeNumber", "()V"⟩
abbrev cX7_takeWord : ByteArray := prog_9_method_16_code
def yX7_takeWord : MethodName := ⟨RX7, "takeWord", "()V"⟩
abbrev cX7_isWord : ByteArray := prog_9_method_17_code
def yX7_isWord : MethodName := ⟨RX7, "isWord", "(Ljava/lang/String;)Z"⟩
def RX8 : String := "TowField$Texts"
def TX8 : u_T := fun k => match k with
  | 0 => ("TowField$Texts", "steps", "[[I", true)
  | 1 => ("TowField$Texts", "length", "[I", true)
  | 2 => ("TowField$Texts", "named", "[I", true)
  | _ => ("TowField$Texts", "stack", "[I", true)
def tyX8 : Nat → FieldType := fun k => match k with
  | 0 => .array (.array .int)
  | 1 => .array .int
  | 2 => .array .int
  | _ => .array .int
abbrev wsX80 : List Cond := u_ws RX8 TX8 4
theorem nmX8 : ∀ a, a < 4 → ∀ b, b < 4 → a ≠ b → (TX8 a).2.1 ≠ (TX8 b).2.1 := by decide +kernel
theorem tyX8_ok : ∀ k, k < 4 → parseFieldDescriptor (TX8 k).2.2.1 = some (tyX8 k) := by decide +kernel
abbrev cX8_init : ByteArray := prog_10_method_1_code
def yX8_init : MethodName := ⟨RX8, "<init>", "()V"⟩
abbrev cX8_put : ByteArray := prog_10_method_2_code
def yX8_put : MethodName := ⟨RX8, "put", "(I[II)V"⟩
abbrev cX8_value : ByteArray := prog_10_method_3_code
def yX8_value : MethodName := ⟨RX8, "value", "(IIIII)I"⟩
abbrev cX8_step : ByteArray := prog_10_method_4_code
def yX8_step : MethodName := ⟨RX8, "step", "(II)I"⟩
abbrev cX8_push : ByteArray := prog_10_method_5_code
def yX8_push : MethodName := ⟨RX8, "push", "(II)I"⟩
abbrev cX8_workOut : ByteArray := prog_10_method_6_code
def yX8_workOut : MethodName := ⟨RX8, "workOut", "(III)I"⟩
def RX9 : String := "TowField$Winches"
def TX9 : u_T := fun k => match k with
  | 0 => ("TowField$Winches", "state", "[I", true)
  | 1 => ("TowField$Winches", "till", "[I", true)
  | _ => ("TowField$Winches", "size", "I", false)
def tyX9 : Nat → FieldType := fun k => match k with
  | 0 => .array .int
  | 1 => .array .int
  | _ => .int
abbrev wsX90 : List Cond := u_ws RX9 TX9 3
theorem nmX9 : ∀ a, a < 3 → ∀ b, b < 3 → a ≠ b → (TX9 a).2.1 ≠ (TX9 b).2.1 := by decide +kernel
theorem tyX9_ok : ∀ k, k < 3 → parseFieldDescriptor (TX9 k).2.2.1 = some (tyX9 k) := by decide +kernel
abbrev cX9_init : ByteArray := prog_11_method_1_code
def yX9_init : MethodName := ⟨RX9, "<init>", "()V"⟩
abbrev cX9_place : ByteArray := prog_11_method_2_code
def yX9_place : MethodName := ⟨RX9, "place", "(II)I"⟩
abbrev cX9_hasRope : ByteArray := prog_11_method_3_code
def yX9_hasRope : MethodName := ⟨RX9, "hasRope", "(II)Z"⟩
abbrev cX9_add : ByteArray := prog_11_method_4_code
def yX9_add : MethodName := ⟨RX9, "add", "()I"⟩
abbrev cX9_put : ByteArray := prog_11_method_5_code
def yX9_put : MethodName := ⟨RX9, "put", "(III)V"⟩
abbrev cX9_firstOut : ByteArray := prog_11_method_6_code
def yX9_firstOut : MethodName := ⟨RX9, "firstOut", "()I"⟩
abbrev cX9_firstWithBothOut : ByteArray := prog_11_method_7_code
def yX9_firstWithBothOut : MethodName := ⟨RX9, "firstWithBothOut", "()I"⟩
abbrev cX9_firstToFetch : ByteArray := prog_11_method_8_code
def yX9_firstToFetch : MethodName := ⟨RX9, "firstToFetch", "()I"⟩
abbrev cX9_useOne : ByteArray := prog_11_method_9_code
def yX9_useOne : MethodName := ⟨RX9, "useOne", "()V"⟩
abbrev cX9_useBoth : ByteArray := prog_11_method_10_code
def yX9_useBoth : MethodName := ⟨RX9, "useBoth", "()V"⟩
abbrev cX9_fetch : ByteArray := prog_11_method_11_code
def yX9_fetch : MethodName := ⟨RX9, "fetch", "(II)V"⟩
abbrev cX9_open : ByteArray := prog_11_method_12_code
def yX9_open : MethodName := ⟨RX9, "open", "(I)V"⟩
abbrev cX9_become : ByteArray := prog_11_method_13_code
def yX9_become : MethodName := ⟨RX9, "become", "(LTowField$Winches;)V"⟩
def RX10 : String := "TowField$World"
def TX10 : u_T := fun k => match k with
  | 0 => ("TowField$World", "texts", "LTowField$Texts;", true)
  | 1 => ("TowField$World", "gliders", "LTowField$Gliders;", true)
  | 2 => ("TowField$World", "people", "LTowField$People;", true)
  | 3 => ("TowField$World", "winches", "LTowField$Winches;", true)
  | 4 => ("TowField$World", "planes", "LTowField$Planes;", true)
  | 5 => ("TowField$World", "lanes", "LTowField$Lanes;", true)
  | 6 => ("TowField$World", "asks", "LTowField$Asks;", true)
  | 7 => ("TowField$World", "rules", "[I", true)
  | 8 => ("TowField$World", "inForce", "[I", true)
  | 9 => ("TowField$World", "minute", "I", false)
  | 10 => ("TowField$World", "wind", "I", false)
  | 11 => ("TowField$World", "links", "I", false)
  | _ => ("TowField$World", "textCount", "I", false)
def tyX10 : Nat → FieldType := fun k => match k with
  | 0 => .object "TowField$Texts"
  | 1 => .object "TowField$Gliders"
  | 2 => .object "TowField$People"
  | 3 => .object "TowField$Winches"
  | 4 => .object "TowField$Planes"
  | 5 => .object "TowField$Lanes"
  | 6 => .object "TowField$Asks"
  | 7 => .array .int
  | 8 => .array .int
  | 9 => .int
  | 10 => .int
  | 11 => .int
  | _ => .int
abbrev wsX100 : List Cond := u_ws RX10 TX10 13
theorem nmX10 : ∀ a, a < 13 → ∀ b, b < 13 → a ≠ b → (TX10 a).2.1 ≠ (TX10 b).2.1 := by decide +kernel
theorem tyX10_ok : ∀ k, k < 13 → parseFieldDescriptor (TX10 k).2.2.1 = some (tyX10 k) := by decide +kernel
abbrev cX10_init : ByteArray := prog_12_method_1_code
def yX10_init : MethodName := ⟨RX10, "<init>", "(LTowField$Texts;)V"⟩
abbrev cX10_become : ByteArray := prog_12_method_2_code
def yX10_become : MethodName := ⟨RX10, "become", "(LTowField$World;)V"⟩
abbrev cX10_barred : ByteArray := prog_12_method_3_code
def yX10_barred : MethodName := ⟨RX10, "barred", "()I"⟩
abbrev cX10_isBarredBy : ByteArray := prog_12_method_4_code
def yX10_isBarredBy : MethodName := ⟨RX10, "isBarredBy", "(II)Z"⟩
abbrev cX10_whyNot : ByteArray := prog_12_method_5_code
def yX10_whyNot : MethodName := ⟨RX10, "whyNot", "(II)I"⟩
abbrev cX10_whyNotWith : ByteArray := prog_12_method_6_code
def yX10_whyNotWith : MethodName := ⟨RX10, "whyNotWith", "(I)I"⟩
abbrev cX10_whyNotBy : ByteArray := prog_12_method_7_code
def yX10_whyNotBy : MethodName := ⟨RX10, "whyNotBy", "(I)I"⟩
abbrev cX10_isRecent : ByteArray := prog_12_method_8_code
def yX10_isRecent : MethodName := ⟨RX10, "isRecent", "(I)Z"⟩
abbrev cX10_whyNotIn : ByteArray := prog_12_method_9_code
def yX10_whyNotIn : MethodName := ⟨RX10, "whyNotIn", "(II)I"⟩
abbrev cX10_hasGear : ByteArray := prog_12_method_10_code
def yX10_hasGear : MethodName := ⟨RX10, "hasGear", "(I)Z"⟩
abbrev cX10_useGear : ByteArray := prog_12_method_11_code
def yX10_useGear : MethodName := ⟨RX10, "useGear", "(II)V"⟩
abbrev cX10_lands : ByteArray := prog_12_method_12_code
def yX10_lands : MethodName := ⟨RX10, "lands", "()I"⟩
abbrev cX10_starts : ByteArray := prog_12_method_13_code
def yX10_starts : MethodName := ⟨RX10, "starts", "(I)I"⟩
abbrev cX10_isFetched : ByteArray := prog_12_method_14_code
def yX10_isFetched : MethodName := ⟨RX10, "isFetched", "()I"⟩
abbrev cX10_first : ByteArray := prog_12_method_15_code
def yX10_first : MethodName := ⟨RX10, "first", "(I)I"⟩
abbrev cX10_go : ByteArray := prog_12_method_16_code
def yX10_go : MethodName := ⟨RX10, "go", "(I)I"⟩
abbrev cX10_goMinute : ByteArray := prog_12_method_17_code
def yX10_goMinute : MethodName := ⟨RX10, "goMinute", "(I)I"⟩
abbrev cX10_comeDown : ByteArray := prog_12_method_18_code
def yX10_comeDown : MethodName := ⟨RX10, "comeDown", "(I)V"⟩
abbrev cX10_takeOff : ByteArray := prog_12_method_19_code
def yX10_takeOff : MethodName := ⟨RX10, "takeOff", "(I)V"⟩
abbrev cX10_openNext : ByteArray := prog_12_method_20_code
def yX10_openNext : MethodName := ⟨RX10, "openNext", "()V"⟩
abbrev cX10_costOf : ByteArray := prog_12_method_21_code
def yX10_costOf : MethodName := ⟨RX10, "costOf", "(I)I"⟩
def RX11 : String := "TowField"
def TX11 : u_T := fun k => match k with
  | 0 => ("TowField", "texts", "LTowField$Texts;", true)
  | 1 => ("TowField", "now", "LTowField$World;", true)
  | 2 => ("TowField", "kept", "LTowField$World;", true)
  | 3 => ("TowField", "trial", "LTowField$World;", true)
  | 4 => ("TowField", "sheets", "LTowField$Sheets;", true)
  | 5 => ("TowField", "tape", "LTowField$Tape;", true)
  | 6 => ("TowField", "findings", "[I", true)
  | _ => ("TowField", "isKept", "Z", false)
def tyX11 : Nat → FieldType := fun k => match k with
  | 0 => .object "TowField$Texts"
  | 1 => .object "TowField$World"
  | 2 => .object "TowField$World"
  | 3 => .object "TowField$World"
  | 4 => .object "TowField$Sheets"
  | 5 => .object "TowField$Tape"
  | 6 => .array .int
  | _ => .boolean
abbrev wsX110 : List Cond := u_ws RX11 TX11 8
theorem nmX11 : ∀ a, a < 8 → ∀ b, b < 8 → a ≠ b → (TX11 a).2.1 ≠ (TX11 b).2.1 := by decide +kernel
theorem tyX11_ok : ∀ k, k < 8 → parseFieldDescriptor (TX11 k).2.2.1 = some (tyX11 k) := by decide +kernel
abbrev cX11_init : ByteArray := prog_1_method_1_code
def yX11_init : MethodName := ⟨RX11, "<init>", "()V"⟩
abbrev cX11_glider : ByteArray := prog_1_method_2_code
def yX11_glider : MethodName := ⟨RX11, "glider", "(IIII)I"⟩
abbrev cX11_person : ByteArray := prog_1_method_3_code
def yX11_person : MethodName := ⟨RX11, "person", "(II)I"⟩
abbrev cX11_winch : ByteArray := prog_1_method_4_code
def yX11_winch : MethodName := ⟨RX11, "winch", "()I"⟩
abbrev cX11_plane : ByteArray := prog_1_method_5_code
def yX11_plane : MethodName := ⟨RX11, "plane", "()I"⟩
abbrev cX11_gliderIs : ByteArray := prog_1_method_6_code
def yX11_gliderIs : MethodName := ⟨RX11, "gliderIs", "(II)I"⟩
abbrev cX11_personIs : ByteArray := prog_1_method_7_code
def yX11_personIs : MethodName := ⟨RX11, "personIs", "(II)I"⟩
abbrev cX11_paper : ByteArray := prog_1_method_8_code
def yX11_paper : MethodName := ⟨RX11, "paper", "(IIZ)I"⟩
abbrev cX11_rope : ByteArray := prog_1_method_9_code
def yX11_rope : MethodName := ⟨RX11, "rope", "(III)I"⟩
abbrev cX11_broken : ByteArray := prog_1_method_10_code
def yX11_broken : MethodName := ⟨RX11, "broken", "(II)I"⟩
abbrev cX11_tow : ByteArray := prog_1_method_11_code
def yX11_tow : MethodName := ⟨RX11, "tow", "(I)I"⟩
abbrev cX11_cross : ByteArray := prog_1_method_12_code
def yX11_cross : MethodName := ⟨RX11, "cross", "(IIZ)I"⟩
abbrev cX11_lane : ByteArray := prog_1_method_13_code
def yX11_lane : MethodName := ⟨RX11, "lane", "(II)I"⟩
abbrev cX11_wind : ByteArray := prog_1_method_14_code
def yX11_wind : MethodName := ⟨RX11, "wind", "(I)I"⟩
abbrev cX11_link : ByteArray := prog_1_method_15_code
def yX11_link : MethodName := ⟨RX11, "link", "(IZ)I"⟩
abbrev cX11_rule : ByteArray := prog_1_method_16_code
def yX11_rule : MethodName := ⟨RX11, "rule", "(II)I"⟩
abbrev cX11_bound : ByteArray := prog_1_method_17_code
def yX11_bound : MethodName := ⟨RX11, "bound", "(I)I"⟩
abbrev cX11_span : ByteArray := prog_1_method_18_code
def yX11_span : MethodName := ⟨RX11, "span", "(II)I"⟩
abbrev cX11_ask : ByteArray := prog_1_method_19_code
def yX11_ask : MethodName := ⟨RX11, "ask", "(IIIII)I"⟩
abbrev cX11_askIs : ByteArray := prog_1_method_20_code
def yX11_askIs : MethodName := ⟨RX11, "askIs", "(II)I"⟩
abbrev cX11_as : ByteArray := prog_1_method_21_code
def yX11_as : MethodName := ⟨RX11, "as", "(II)I"⟩
abbrev cX11_back : ByteArray := prog_1_method_22_code
def yX11_back : MethodName := ⟨RX11, "back", "(I)I"⟩
abbrev cX11_why : ByteArray := prog_1_method_23_code
def yX11_why : MethodName := ⟨RX11, "why", "(I)I"⟩
abbrev cX11_clear : ByteArray := prog_1_method_24_code
def yX11_clear : MethodName := ⟨RX11, "clear", "(II)I"⟩
abbrev cX11_next : ByteArray := prog_1_method_25_code
def yX11_next : MethodName := ⟨RX11, "next", "()I"⟩
abbrev cX11_feed : ByteArray := prog_1_method_26_code
def yX11_feed : MethodName := ⟨RX11, "feed", "(II)I"⟩
abbrev cX11_wipe : ByteArray := prog_1_method_27_code
def yX11_wipe : MethodName := ⟨RX11, "wipe", "()I"⟩
abbrev cX11_text : ByteArray := prog_1_method_28_code
def yX11_text : MethodName := ⟨RX11, "text", "(I)I"⟩
abbrev cX11_force : ByteArray := prog_1_method_29_code
def yX11_force : MethodName := ⟨RX11, "force", "(I)I"⟩
abbrev cX11_says : ByteArray := prog_1_method_30_code
def yX11_says : MethodName := ⟨RX11, "says", "(IIII)I"⟩
abbrev cX11_run : ByteArray := prog_1_method_31_code
def yX11_run : MethodName := ⟨RX11, "run", "(I)I"⟩
abbrev cX11_ahead : ByteArray := prog_1_method_32_code
def yX11_ahead : MethodName := ⟨RX11, "ahead", "(II)I"⟩
abbrev cX11_late : ByteArray := prog_1_method_33_code
def yX11_late : MethodName := ⟨RX11, "late", "(I)I"⟩
abbrev cX11_check : ByteArray := prog_1_method_34_code
def yX11_check : MethodName := ⟨RX11, "check", "(I)I"⟩
abbrev cX11_share : ByteArray := prog_1_method_35_code
def yX11_share : MethodName := ⟨RX11, "share", "(II)I"⟩
abbrev cX11_pay : ByteArray := prog_1_method_36_code
def yX11_pay : MethodName := ⟨RX11, "pay", "(II)I"⟩
abbrev cX11_sheet : ByteArray := prog_1_method_37_code
def yX11_sheet : MethodName := ⟨RX11, "sheet", "(III)I"⟩
abbrev cX11_write : ByteArray := prog_1_method_38_code
def yX11_write : MethodName := ⟨RX11, "write", "(III)I"⟩
abbrev cX11_copy : ByteArray := prog_1_method_39_code
def yX11_copy : MethodName := ⟨RX11, "copy", "(IIIII)I"⟩
abbrev cX11_image : ByteArray := prog_1_method_40_code
def yX11_image : MethodName := ⟨RX11, "image", "()I"⟩
abbrev cX11_undo : ByteArray := prog_1_method_41_code
def yX11_undo : MethodName := ⟨RX11, "undo", "()I"⟩
abbrev cX11_tear : ByteArray := prog_1_method_42_code
def yX11_tear : MethodName := ⟨RX11, "tear", "()I"⟩
abbrev cX11_count : ByteArray := prog_1_method_43_code
def yX11_count : MethodName := ⟨RX11, "count", "(I)I"⟩
abbrev cX11_status : ByteArray := prog_1_method_44_code
def yX11_status : MethodName := ⟨RX11, "status", "(I)I"⟩
abbrev cX11_found : ByteArray := prog_1_method_45_code
def yX11_found : MethodName := ⟨RX11, "found", "(I)I"⟩
abbrev cX11_mayBeAlong : ByteArray := prog_1_method_46_code
def yX11_mayBeAlong : MethodName := ⟨RX11, "mayBeAlong", "(II)Z"⟩
abbrev cX11_isHow : ByteArray := prog_1_method_47_code
def yX11_isHow : MethodName := ⟨RX11, "isHow", "(I)Z"⟩
abbrev cX11_within : ByteArray := prog_1_method_48_code
def yX11_within : MethodName := ⟨RX11, "within", "(III)Z"⟩
abbrev cX11_withBit : ByteArray := prog_1_method_49_code
def yX11_withBit : MethodName := ⟨RX11, "withBit", "(IIZ)I"⟩
abbrev cX11_hasBit : ByteArray := prog_1_method_50_code
def yX11_hasBit : MethodName := ⟨RX11, "hasBit", "(II)Z"⟩
def RX12 : String := "TowFieldModel"
def TX12 : u_T := fun k => match k with
  | 0 => ("TowFieldModel", "now", "[I", true)
  | 1 => ("TowFieldModel", "kept", "[I", true)
  | 2 => ("TowFieldModel", "aside", "[I", true)
  | 3 => ("TowFieldModel", "hasKept", "Z", false)
  | 4 => ("TowFieldModel", "found", "[I", true)
  | 5 => ("TowFieldModel", "tape", "[I", true)
  | 6 => ("TowFieldModel", "taped", "I", false)
  | 7 => ("TowFieldModel", "launches", "I", false)
  | 8 => ("TowFieldModel", "landings", "I", false)
  | 9 => ("TowFieldModel", "flying", "I", false)
  | 10 => ("TowFieldModel", "waiting", "I", false)
  | 11 => ("TowFieldModel", "names", "[Ljava/lang/String;", true)
  | 12 => ("TowFieldModel", "sort", "I", false)
  | 13 => ("TowFieldModel", "from", "I", false)
  | 14 => ("TowFieldModel", "to", "I", false)
  | 15 => ("TowFieldModel", "isWrong", "Z", false)
  | 16 => ("TowFieldModel", "open", "I", false)
  | 17 => ("TowFieldModel", "step", "[I", true)
  | 18 => ("TowFieldModel", "steps", "I", false)
  | 19 => ("TowFieldModel", "pile", "[I", true)
  | 20 => ("TowFieldModel", "widths", "[I", true)
  | 21 => ("TowFieldModel", "sizes", "[I", true)
  | 22 => ("TowFieldModel", "numbers", "[I", true)
  | _ => ("TowFieldModel", "moved", "[I", true)
def tyX12 : Nat → FieldType := fun k => match k with
  | 0 => .array .int
  | 1 => .array .int
  | 2 => .array .int
  | 3 => .boolean
  | 4 => .array .int
  | 5 => .array .int
  | 6 => .int
  | 7 => .int
  | 8 => .int
  | 9 => .int
  | 10 => .int
  | 11 => .array (.object "java/lang/String")
  | 12 => .int
  | 13 => .int
  | 14 => .int
  | 15 => .boolean
  | 16 => .int
  | 17 => .array .int
  | 18 => .int
  | 19 => .array .int
  | 20 => .array .int
  | 21 => .array .int
  | 22 => .array .int
  | _ => .array .int
abbrev wsX120 : List Cond := u_ws RX12 TX12 24
theorem nmX12 : ∀ a, a < 24 → ∀ b, b < 24 → a ≠ b → (TX12 a).2.1 ≠ (TX12 b).2.1 := by decide +kernel
theorem tyX12_ok : ∀ k, k < 24 → parseFieldDescriptor (TX12 k).2.2.1 = some (tyX12 k) := by decide +kernel
abbrev cX12_init : ByteArray := prog_14_method_1_code
def yX12_init : MethodName := ⟨RX12, "<init>", "()V"⟩
abbrev cX12_finding : ByteArray := prog_14_method_2_code
def yX12_finding : MethodName := ⟨RX12, "finding", "(I)I"⟩
abbrev cX12_within : ByteArray := prog_14_method_3_code
def yX12_within : MethodName := ⟨RX12, "within", "(III)Z"⟩
abbrev cX12_is : ByteArray := prog_14_method_4_code
def yX12_is : MethodName := ⟨RX12, "is", "(II)Z"⟩
abbrev cX12_has : ByteArray := prog_14_method_5_code
def yX12_has : MethodName := ⟨RX12, "has", "(II)Z"⟩
abbrev cX12_become : ByteArray := prog_14_method_6_code
def yX12_become : MethodName := ⟨RX12, "become", "(II)I"⟩
abbrev cX12_gliderOf : ByteArray := prog_14_method_7_code
def yX12_gliderOf : MethodName := ⟨RX12, "gliderOf", "(II)I"⟩
abbrev cX12_personOf : ByteArray := prog_14_method_8_code
def yX12_personOf : MethodName := ⟨RX12, "personOf", "(II)I"⟩
abbrev cX12_askOf : ByteArray := prog_14_method_9_code
def yX12_askOf : MethodName := ⟨RX12, "askOf", "(II)I"⟩
abbrev cX12_glider : ByteArray := prog_14_method_10_code
def yX12_glider : MethodName := ⟨RX12, "glider", "(IIII)I"⟩
abbrev cX12_person : ByteArray := prog_14_method_11_code
def yX12_person : MethodName := ⟨RX12, "person", "(II)I"⟩
abbrev cX12_winch : ByteArray := prog_14_method_12_code
def yX12_winch : MethodName := ⟨RX12, "winch", "()I"⟩
abbrev cX12_plane : ByteArray := prog_14_method_13_code
def yX12_plane : MethodName := ⟨RX12, "plane", "()I"⟩
abbrev cX12_isInRow : ByteArray := prog_14_method_14_code
def yX12_isInRow : MethodName := ⟨RX12, "isInRow", "(I)Z"⟩
abbrev cX12_isInAir : ByteArray := prog_14_method_15_code
def yX12_isInAir : MethodName := ⟨RX12, "isInAir", "(I)Z"⟩
abbrev cX12_gliderIs : ByteArray := prog_14_method_16_code
def yX12_gliderIs : MethodName := ⟨RX12, "gliderIs", "(II)I"⟩
abbrev cX12_personIs : ByteArray := prog_14_method_17_code
def yX12_personIs : MethodName := ⟨RX12, "personIs", "(II)I"⟩
abbrev cX12_bit : ByteArray := prog_14_method_18_code
def yX12_bit : MethodName := ⟨RX12, "bit", "(IIZ)I"⟩
abbrev cX12_paper : ByteArray := prog_14_method_19_code
def yX12_paper : MethodName := ⟨RX12, "paper", "(IIZ)I"⟩
abbrev cX12_ropeAt : ByteArray := prog_14_method_20_code
def yX12_ropeAt : MethodName := ⟨RX12, "ropeAt", "(II)I"⟩
abbrev cX12_rope : ByteArray := prog_14_method_21_code
def yX12_rope : MethodName := ⟨RX12, "rope", "(III)I"⟩
abbrev cX12_ropeIs : ByteArray := prog_14_method_22_code
def yX12_ropeIs : MethodName := ⟨RX12, "ropeIs", "(IIII)V"⟩
abbrev cX12_broken : ByteArray := prog_14_method_23_code
def yX12_broken : MethodName := ⟨RX12, "broken", "(II)I"⟩
abbrev cX12_tow : ByteArray := prog_14_method_24_code
def yX12_tow : MethodName := ⟨RX12, "tow", "(I)I"⟩
abbrev cX12_isLane : ByteArray := prog_14_method_25_code
def yX12_isLane : MethodName := ⟨RX12, "isLane", "(I)Z"⟩
abbrev cX12_cross : ByteArray := prog_14_method_26_code
def yX12_cross : MethodName := ⟨RX12, "cross", "(IIZ)I"⟩
abbrev cX12_lane : ByteArray := prog_14_method_27_code
def yX12_lane : MethodName := ⟨RX12, "lane", "(II)I"⟩
abbrev cX12_wind : ByteArray := prog_14_method_28_code
def yX12_wind : MethodName := ⟨RX12, "wind", "(I)I"⟩
abbrev cX12_link : ByteArray := prog_14_method_29_code
def yX12_link : MethodName := ⟨RX12, "link", "(IZ)I"⟩
abbrev cX12_rule : ByteArray := prog_14_method_30_code
def yX12_rule : MethodName := ⟨RX12, "rule", "(II)I"⟩
abbrev cX12_isKind : ByteArray := prog_14_method_31_code
def yX12_isKind : MethodName := ⟨RX12, "isKind", "(I)Z"⟩
abbrev cX12_boundOf : ByteArray := prog_14_method_32_code
def yX12_boundOf : MethodName := ⟨RX12, "boundOf", "(I)I"⟩
abbrev cX12_spanOf : ByteArray := prog_14_method_33_code
def yX12_spanOf : MethodName := ⟨RX12, "spanOf", "(II)I"⟩
abbrev cX12_bound : ByteArray := prog_14_method_34_code
def yX12_bound : MethodName := ⟨RX12, "bound", "(I)I"⟩
abbrev cX12_span : ByteArray := prog_14_method_35_code
def yX12_span : MethodName := ⟨RX12, "span", "(II)I"⟩
abbrev cX12_ask : ByteArray := prog_14_method_36_code
def yX12_ask : MethodName := ⟨RX12, "ask", "(IIIII)I"⟩
abbrev cX12_askIs : ByteArray := prog_14_method_37_code
def yX12_askIs : MethodName := ⟨RX12, "askIs", "(II)I"⟩
abbrev cX12_above : ByteArray := prog_14_method_38_code
def yX12_above : MethodName := ⟨RX12, "above", "(I)I"⟩
abbrev cX12_isUnder : ByteArray := prog_14_method_39_code
def yX12_isUnder : MethodName := ⟨RX12, "isUnder", "(II)Z"⟩
abbrev cX12_as : ByteArray := prog_14_method_40_code
def yX12_as : MethodName := ⟨RX12, "as", "(II)I"⟩
abbrev cX12_back : ByteArray := prog_14_method_41_code
def yX12_back : MethodName := ⟨RX12, "back", "(I)I"⟩
abbrev cX12_isClear : ByteArray := prog_14_method_42_code
def yX12_isClear : MethodName := ⟨RX12, "isClear", "(II)Z"⟩
abbrev cX12_moves : ByteArray := prog_14_method_43_code
def yX12_moves : MethodName := ⟨RX12, "moves", "(II)V"⟩
abbrev cX12_laneOf : ByteArray := prog_14_method_44_code
def yX12_laneOf : MethodName := ⟨RX12, "laneOf", "(I)I"⟩
abbrev cX12_spanOfAsk : ByteArray := prog_14_method_45_code
def yX12_spanOfAsk : MethodName := ⟨RX12, "spanOfAsk", "(I)I"⟩
abbrev cX12_hasPapers : ByteArray := prog_14_method_46_code
def yX12_hasPapers : MethodName := ⟨RX12, "hasPapers", "(II)Z"⟩
abbrev cX12_winchFor : ByteArray := prog_14_method_47_code
def yX12_winchFor : MethodName := ⟨RX12, "winchFor", "(I)I"⟩
abbrev cX12_planeThere : ByteArray := prog_14_method_48_code
def yX12_planeThere : MethodName := ⟨RX12, "planeThere", "()I"⟩
abbrev cX12_hasHelp : ByteArray := prog_14_method_49_code
def yX12_hasHelp : MethodName := ⟨RX12, "hasHelp", "(I)Z"⟩
abbrev cX12_whyNot : ByteArray := prog_14_method_50_code
def yX12_whyNot : MethodName := ⟨RX12, "whyNot", "(I)I"⟩
abbrev cX12_why : ByteArray := prog_14_method_51_code
def yX12_why : MethodName := ⟨RX12, "why", "(I)I"⟩
abbrev cX12_clear : ByteArray := prog_14_method_52_code
def yX12_clear : MethodName := ⟨RX12, "clear", "(II)I"⟩
abbrev cX12_dueOf : ByteArray := prog_14_method_53_code
def yX12_dueOf : MethodName := ⟨RX12, "dueOf", "(I)I"⟩
abbrev cX12_lands : ByteArray := prog_14_method_54_code
def yX12_lands : MethodName := ⟨RX12, "lands", "()I"⟩
abbrev cX12_starts : ByteArray := prog_14_method_55_code
def yX12_starts : MethodName := ⟨RX12, "starts", "()I"⟩
abbrev cX12_fetches : ByteArray := prog_14_method_56_code
def yX12_fetches : MethodName := ⟨RX12, "fetches", "()I"⟩
abbrev cX12_next : ByteArray := prog_14_method_57_code
def yX12_next : MethodName := ⟨RX12, "next", "()I"⟩
abbrev cX12_costOf : ByteArray := prog_14_method_58_code
def yX12_costOf : MethodName := ⟨RX12, "costOf", "(I)I"⟩
abbrev cX12_goesDown : ByteArray := prog_14_method_59_code
def yX12_goesDown : MethodName := ⟨RX12, "goesDown", "(I)V"⟩
abbrev cX12_goesUp : ByteArray := prog_14_method_60_code
def yX12_goesUp : MethodName := ⟨RX12, "goesUp", "(I)V"⟩
abbrev cX12_isFetched : ByteArray := prog_14_method_61_code
def yX12_isFetched : MethodName := ⟨RX12, "isFetched", "(I)V"⟩
abbrev cX12_opens : ByteArray := prog_14_method_62_code
def yX12_opens : MethodName := ⟨RX12, "opens", "()V"⟩
abbrev cX12_goes : ByteArray := prog_14_method_63_code
def yX12_goes : MethodName := ⟨RX12, "goes", "()I"⟩
abbrev cX12_run : ByteArray := prog_14_method_64_code
def yX12_run : MethodName := ⟨RX12, "run", "(I)I"⟩
abbrev cX12_copyRow : ByteArray := prog_14_method_65_code
def yX12_copyRow : MethodName := ⟨RX12, "copyRow", "([I[I)V"⟩
abbrev cX12_asksThat : ByteArray := prog_14_method_66_code
def yX12_asksThat : MethodName := ⟨RX12, "asksThat", "(I)I"⟩
abbrev cX12_goBeside : ByteArray := prog_14_method_67_code
def yX12_goBeside : MethodName := ⟨RX12, "goBeside", "(I)V"⟩
abbrev cX12_ahead : ByteArray := prog_14_method_68_code
def yX12_ahead : MethodName := ⟨RX12, "ahead", "(II)I"⟩
abbrev cX12_late : ByteArray := prog_14_method_69_code
def yX12_late : MethodName := ⟨RX12, "late", "(I)I"⟩
abbrev cX12_feed : ByteArray := prog_14_method_70_code
def yX12_feed : MethodName := ⟨RX12, "feed", "(II)I"⟩
abbrev cX12_wipe : ByteArray := prog_14_method_71_code
def yX12_wipe : MethodName := ⟨RX12, "wipe", "()I"⟩
abbrev cX12_isByte : ByteArray := prog_14_method_72_code
def yX12_isByte : MethodName := ⟨RX12, "isByte", "(III)Z"⟩
abbrev cX12_nextToken : ByteArray := prog_14_method_73_code
def yX12_nextToken : MethodName := ⟨RX12, "nextToken", "()V"⟩
abbrev cX12_need : ByteArray := prog_14_method_74_code
def yX12_need : MethodName := ⟨RX12, "need", "(Z)V"⟩
abbrev cX12_isWord : ByteArray := prog_14_method_75_code
def yX12_isWord : MethodName := ⟨RX12, "isWord", "(Ljava/lang/String;)Z"⟩
abbrev cX12_isSign : ByteArray := prog_14_method_76_code
def yX12_isSign : MethodName := ⟨RX12, "isSign", "(I)Z"⟩
abbrev cX12_emit : ByteArray := prog_14_method_77_code
def yX12_emit : MethodName := ⟨RX12, "emit", "(I)V"⟩
abbrev cX12_either : ByteArray := prog_14_method_78_code
def yX12_either : MethodName := ⟨RX12, "either", "()V"⟩
abbrev cX12_both : ByteArray := prog_14_method_79_code
def yX12_both : MethodName := ⟨RX12, "both", "()V"⟩
abbrev cX12_not : ByteArray := prog_14_method_80_code
def yX12_not : MethodName := ⟨RX12, "not", "()V"⟩
abbrev cX12_sum : ByteArray := prog_14_method_81_code
def yX12_sum : MethodName := ⟨RX12, "sum", "()V"⟩
abbrev cX12_product : ByteArray := prog_14_method_82_code
def yX12_product : MethodName := ⟨RX12, "product", "()V"⟩
abbrev cX12_part : ByteArray := prog_14_method_83_code
def yX12_part : MethodName := ⟨RX12, "part", "()V"⟩
abbrev cX12_text : ByteArray := prog_14_method_84_code
def yX12_text : MethodName := ⟨RX12, "text", "(I)I"⟩
abbrev cX12_textOf : ByteArray := prog_14_method_85_code
def yX12_textOf : MethodName := ⟨RX12, "textOf", "(I)I"⟩
abbrev cX12_force : ByteArray := prog_14_method_86_code
def yX12_force : MethodName := ⟨RX12, "force", "(I)I"⟩
abbrev cX12_done : ByteArray := prog_14_method_87_code
def yX12_done : MethodName := ⟨RX12, "done", "(III)I"⟩
abbrev cX12_worked : ByteArray := prog_14_method_88_code
def yX12_worked : MethodName := ⟨RX12, "worked", "(IIII)I"⟩
abbrev cX12_says : ByteArray := prog_14_method_89_code
def yX12_says : MethodName := ⟨RX12, "says", "(IIII)I"⟩
abbrev cX12_share : ByteArray := prog_14_method_90_code
def yX12_share : MethodName := ⟨RX12, "share", "(II)I"⟩
abbrev cX12_pay : ByteArray := prog_14_method_91_code
def yX12_pay : MethodName := ⟨RX12, "pay", "(II)I"⟩
abbrev cX12_isSheet : ByteArray := prog_14_method_92_code
def yX12_isSheet : MethodName := ⟨RX12, "isSheet", "(I)Z"⟩
abbrev cX12_check : ByteArray := prog_14_method_93_code
def yX12_check : MethodName := ⟨RX12, "check", "(I)I"⟩
abbrev cX12_cut : ByteArray := prog_14_method_94_code
def yX12_cut : MethodName := ⟨RX12, "cut", "(II)I"⟩
abbrev cX12_sheet : ByteArray := prog_14_method_95_code
def yX12_sheet : MethodName := ⟨RX12, "sheet", "(III)I"⟩
abbrev cX12_write : ByteArray := prog_14_method_96_code
def yX12_write : MethodName := ⟨RX12, "write", "(III)I"⟩
abbrev cX12_copy : ByteArray := prog_14_method_97_code
def yX12_copy : MethodName := ⟨RX12, "copy", "(IIIII)I"⟩
abbrev cX12_image : ByteArray := prog_14_method_98_code
def yX12_image : MethodName := ⟨RX12, "image", "()I"⟩
abbrev cX12_undo : ByteArray := prog_14_method_99_code
def yX12_undo : MethodName := ⟨RX12, "undo", "()I"⟩
abbrev cX12_tear : ByteArray := prog_14_method_100_code
def yX12_tear : MethodName := ⟨RX12, "tear", "()I"⟩
abbrev cX12_bits : ByteArray := prog_14_method_101_code
def yX12_bits : MethodName := ⟨RX12, "bits", "(I)I"⟩
abbrev cX12_count : ByteArray := prog_14_method_102_code
def yX12_count : MethodName := ⟨RX12, "count", "(I)I"⟩
abbrev cX12_status : ByteArray := prog_14_method_103_code
def yX12_status : MethodName := ⟨RX12, "status", "(I)I"⟩
def RJ11 : String := "java/lang/Character"
def TJ11 : u_T := fun k => match k with
  | _ => ("", "", "", false)
def tyJ11 : Nat → FieldType := fun k => match k with
  | _ => .int
abbrev wsJ110 : List Cond := u_ws RJ11 TJ11 0
theorem nmJ11 : ∀ a, a < 0 → ∀ b, b < 0 → a ≠ b → (TJ11 a).2.1 ≠ (TJ11 b).2.1 := by decide +kernel
theorem tyJ11_ok : ∀ k, k < 0 → parseFieldDescriptor (TJ11 k).2.2.1 = some (tyJ11 k) := by decide +kernel
abbrev cJ11_isValidCodePoint_9a6ad : ByteArray := prog_15_method_11_code
def yJ11_isValidCodePoint_9a6ad : MethodName := ⟨RJ11, "isValidCodePoint", "(I)Z"⟩
abbrev cJ11_highSurrogate_5068e : ByteArray := prog_15_method_28_code
def yJ11_highSurrogate_5068e : MethodName := ⟨RJ11, "highSurrogate", "(I)C"⟩
abbrev cJ11_lowSurrogate_5068e : ByteArray := prog_15_method_29_code
def yJ11_lowSurrogate_5068e : MethodName := ⟨RJ11, "lowSurrogate", "(I)C"⟩
def RJ6 : String := "java/lang/Integer"
def TJ6 : u_T := fun k => match k with
  | _ => ("", "", "", false)
def tyJ6 : Nat → FieldType := fun k => match k with
  | _ => .int
abbrev wsJ60 : List Cond := u_ws RJ6 TJ6 0
theorem nmJ6 : ∀ a, a < 0 → ∀ b, b < 0 → a ≠ b → (TJ6 a).2.1 ≠ (TJ6 b).2.1 := by decide +kernel
theorem tyJ6_ok : ∀ k, k < 0 → parseFieldDescriptor (TJ6 k).2.2.1 = some (tyJ6 k) := by decide +kernel
abbrev cJ6_bitCount_0f7a4 : ByteArray := prog_16_method_49_code
def yJ6_bitCount_0f7a4 : MethodName := ⟨RJ6, "bitCount", "(I)I"⟩
def RJ9 : String := "java/lang/Math"
def TJ9 : u_T := fun k => match k with
  | _ => ("", "", "", false)
def tyJ9 : Nat → FieldType := fun k => match k with
  | _ => .int
abbrev wsJ90 : List Cond := u_ws RJ9 TJ9 0
theorem nmJ9 : ∀ a, a < 0 → ∀ b, b < 0 → a ≠ b → (TJ9 a).2.1 ≠ (TJ9 b).2.1 := by decide +kernel
theorem tyJ9_ok : ∀ k, k < 0 → parseFieldDescriptor (TJ9 k).2.2.1 = some (tyJ9 k) := by decide +kernel
abbrev cJ9_max_7cf53 : ByteArray := prog_17_method_65_code
def yJ9_max_7cf53 : MethodName := ⟨RJ9, "max", "(II)I"⟩
abbrev cJ9_min_7cf53 : ByteArray := prog_17_method_69_code
def yJ9_min_7cf53 : MethodName := ⟨RJ9, "min", "(II)I"⟩
def RJ0 : String := "java/lang/String"
def TJ0 : u_T := fun k => match k with
  | _ => ("", "", "", false)
def tyJ0 : Nat → FieldType := fun k => match k with
  | _ => .int
abbrev wsJ00 : List Cond := u_ws RJ0 TJ0 0
theorem nmJ0 : ∀ a, a < 0 → ∀ b, b < 0 → a ≠ b → (TJ0 a).2.1 ≠ (TJ0 b).2.1 := by decide +kernel
theorem tyJ0_ok : ∀ k, k < 0 → parseFieldDescriptor (TJ0 k).2.2.1 = some (tyJ0 k) := by decide +kernel
abbrev cJ0_length_8abf5 : ByteArray := prog_18_method_54_code
def yJ0_length_8abf5 : MethodName := ⟨RJ0, "length", "()I"⟩
abbrev cJ0_charAt_5068e : ByteArray := prog_18_method_56_code
def yJ0_charAt_5068e : MethodName := ⟨RJ0, "charAt", "(I)C"⟩
abbrev cJ0_indexOf_0f7a4 : ByteArray := prog_18_method_79_code
def yJ0_indexOf_0f7a4 : MethodName := ⟨RJ0, "indexOf", "(I)I"⟩
abbrev cJ0_indexOf_7cf53 : ByteArray := prog_18_method_80_code
def yJ0_indexOf_7cf53 : MethodName := ⟨RJ0, "indexOf", "(II)I"⟩
abbrev cJ0_coder_7d493 : ByteArray := prog_18_method_152_code
def yJ0_coder_7d493 : MethodName := ⟨RJ0, "coder", "()B"⟩
abbrev cJ0_isLatin1_aae02 : ByteArray := prog_18_method_154_code
def yJ0_isLatin1_aae02 : MethodName := ⟨RJ0, "isLatin1", "()Z"⟩
abbrev cJ0_checkIndex_df160 : ByteArray := prog_18_method_155_code
def yJ0_checkIndex_df160 : MethodName := ⟨RJ0, "checkIndex", "(II)V"⟩
abbrev cJ0_checkBoundsBeginEnd_23922 : ByteArray := prog_18_method_158_code
def yJ0_checkBoundsBeginEnd_23922 : MethodName := ⟨RJ0, "checkBoundsBeginEnd", "(III)V"⟩
def RJ1 : String := "java/lang/StringLatin1"
def TJ1 : u_T := fun k => match k with
  | _ => ("", "", "", false)
def tyJ1 : Nat → FieldType := fun k => match k with
  | _ => .int
abbrev wsJ10 : List Cond := u_ws RJ1 TJ1 0
theorem nmJ1 : ∀ a, a < 0 → ∀ b, b < 0 → a ≠ b → (TJ1 a).2.1 ≠ (TJ1 b).2.1 := by decide +kernel
theorem tyJ1_ok : ∀ k, k < 0 → parseFieldDescriptor (TJ1 k).2.2.1 = some (tyJ1 k) := by decide +kernel
abbrev cJ1_charAt_3b067 : ByteArray := prog_19_method_2_code
def yJ1_charAt_3b067 : MethodName := ⟨RJ1, "charAt", "([BI)C"⟩
abbrev cJ1_canEncode_9a6ad : ByteArray := prog_19_method_4_code
def yJ1_canEncode_9a6ad : MethodName := ⟨RJ1, "canEncode", "(I)Z"⟩
abbrev cJ1_indexOf_4cfef : ByteArray := prog_19_method_22_code
def yJ1_indexOf_4cfef : MethodName := ⟨RJ1, "indexOf", "([BIII)I"⟩
abbrev cJ1_indexOfChar_4cfef : ByteArray := prog_19_method_23_code
def yJ1_indexOfChar_4cfef : MethodName := ⟨RJ1, "indexOfChar", "([BIII)I"⟩
def RJ2 : String := "java/lang/StringUTF16"
def TJ2 : u_T := fun k => match k with
  | _ => ("", "", "", false)
def tyJ2 : Nat → FieldType := fun k => match k with
  | _ => .int
abbrev wsJ20 : List Cond := u_ws RJ2 TJ2 0
theorem nmJ2 : ∀ a, a < 0 → ∀ b, b < 0 → a ≠ b → (TJ2 a).2.1 ≠ (TJ2 b).2.1 := by decide +kernel
theorem tyJ2_ok : ∀ k, k < 0 → parseFieldDescriptor (TJ2 k).2.2.1 = some (tyJ2 k) := by decide +kernel
abbrev cJ2_getChar_3b067 : ByteArray := prog_20_method_5_code
def yJ2_getChar_3b067 : MethodName := ⟨RJ2, "getChar", "([BI)C"⟩
abbrev cJ2_length_9d52b : ByteArray := prog_20_method_6_code
def yJ2_length_9d52b : MethodName := ⟨RJ2, "length", "([B)I"⟩
abbrev cJ2_indexOf_4cfef : ByteArray := prog_20_method_40_code
def yJ2_indexOf_4cfef : MethodName := ⟨RJ2, "indexOf", "([BIII)I"⟩
abbrev cJ2_indexOfChar_4cfef : ByteArray := prog_20_method_47_code
def yJ2_indexOfChar_4cfef : MethodName := ⟨RJ2, "indexOfChar", "([BIII)I"⟩
abbrev cJ2_indexOfCharUnsafe_4cfef : ByteArray := prog_20_method_48_code
def yJ2_indexOfCharUnsafe_4cfef : MethodName := ⟨RJ2, "indexOfCharUnsafe", "([BIII)I"⟩
abbrev cJ2_indexOfSupplementary_4cfef : ByteArray := prog_20_method_49_code
def yJ2_indexOfSupplementary_4cfef : MethodName := ⟨RJ2, "indexOfSupplementary", "([BIII)I"⟩
abbrev cJ2_charAt_3b067 : ByteArray := prog_20_method_83_code
def yJ2_charAt_3b067 : MethodName := ⟨RJ2, "charAt", "([BI)C"⟩
abbrev cJ2_checkIndex_2214a : ByteArray := prog_20_method_91_code
def yJ2_checkIndex_2214a : MethodName := ⟨RJ2, "checkIndex", "(I[B)V"⟩
abbrev cJ2_checkBoundsBeginEnd_d044e : ByteArray := prog_20_method_93_code
def yJ2_checkBoundsBeginEnd_d044e : MethodName := ⟨RJ2, "checkBoundsBeginEnd", "(II[B)V"⟩
def RJ10 : String := "java/lang/System"
def TJ10 : u_T := fun k => match k with
  | _ => ("", "", "", false)
def tyJ10 : Nat → FieldType := fun k => match k with
  | _ => .int
abbrev wsJ100 : List Cond := u_ws RJ10 TJ10 0
theorem nmJ10 : ∀ a, a < 0 → ∀ b, b < 0 → a ≠ b → (TJ10 a).2.1 ≠ (TJ10 b).2.1 := by decide +kernel
theorem tyJ10_ok : ∀ k, k < 0 → parseFieldDescriptor (TJ10 k).2.2.1 = some (tyJ10 k) := by decide +kernel
def RJ3 : String := "jdk/internal/util/Preconditions"
def TJ3 : u_T := fun k => match k with
  | _ => ("", "", "", false)
def tyJ3 : Nat → FieldType := fun k => match k with
  | _ => .int
abbrev wsJ30 : List Cond := u_ws RJ3 TJ3 0
theorem nmJ3 : ∀ a, a < 0 → ∀ b, b < 0 → a ≠ b → (TJ3 a).2.1 ≠ (TJ3 b).2.1 := by decide +kernel
theorem tyJ3_ok : ∀ k, k < 0 → parseFieldDescriptor (TJ3 k).2.2.1 = some (tyJ3 k) := by decide +kernel
abbrev cJ3_checkIndex_8e157 : ByteArray := prog_22_method_11_code
def yJ3_checkIndex_8e157 : MethodName := ⟨RJ3, "checkIndex", "(IILjava/util/function/BiFunction;)I"⟩
abbrev cJ3_checkFromToIndex_8c36e : ByteArray := prog_22_method_12_code
def yJ3_checkFromToIndex_8c36e : MethodName := ⟨RJ3, "checkFromToIndex", "(IIILjava/util/function/BiFunction;)I"⟩
def RL : String := "TowFieldLaw"
abbrev cL_law : ByteArray := code
def yL_law : MethodName := ⟨RL, "law", "([I)Z"⟩
abbrev vwCl : List vw_C := [(RX0, TX0, 13), (RX1, TX1, 6), (RX3, TX3, 6), (RX4, TX4, 6), (RX5, TX5, 2), (RX6, TX6, 3), (RX7, TX7, 8), (RX8, TX8, 4), (RX9, TX9, 3), (RX10, TX10, 13), (RX11, TX11, 8), (RX12, TX12, 24)]
