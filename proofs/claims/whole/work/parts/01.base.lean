-- ===== PART A: goes FIRST, ahead of the names: the tables' words, and 'selects' of the private methods out of them =====
/-- a private method of a class that the tables say can be made, by its rows of tables_1 -/
def lw_okq (q : MethodName × Nat) : Prop := (q.1.cls ≠ "java/lang/invoke/MethodHandle" ∧ q.1.cls ≠ "java/lang/invoke/VarHandle") ∧ Cond.instantiable q.1.cls q.2 ∈ tables_1 ∧ Cond.privateMethod q.1 ∈ tables_1 ∧ Cond.instanceMethod q.1 ∈ tables_1
theorem lw_p0 : lw_okq (⟨"TreacleTank$Tank", "loadOf", "(LTreacleTank$Ring;)I"⟩, 19) := ⟨⟨by decide +kernel, by decide +kernel⟩, List.mem_of_getElem? (i := 34) (by decide +kernel), List.mem_of_getElem? (i := 384) (by decide +kernel), List.mem_of_getElem? (i := 385) (by decide +kernel)⟩
theorem lw_p1 : lw_okq (⟨"TreacleTank$Tank", "bearOrBurst", "()V"⟩, 19) := ⟨⟨by decide +kernel, by decide +kernel⟩, List.mem_of_getElem? (i := 34) (by decide +kernel), List.mem_of_getElem? (i := 399) (by decide +kernel), List.mem_of_getElem? (i := 400) (by decide +kernel)⟩
theorem lw_p2 : lw_okq (⟨"TreacleTank$Tank", "seekBurst", "()V"⟩, 19) := ⟨⟨by decide +kernel, by decide +kernel⟩, List.mem_of_getElem? (i := 34) (by decide +kernel), List.mem_of_getElem? (i := 403) (by decide +kernel), List.mem_of_getElem? (i := 404) (by decide +kernel)⟩
theorem lw_p3 : lw_okq (⟨"TreacleTank$Tank", "bearsOf", "(LTreacleTank$Ring;)I"⟩, 19) := ⟨⟨by decide +kernel, by decide +kernel⟩, List.mem_of_getElem? (i := 34) (by decide +kernel), List.mem_of_getElem? (i := 407) (by decide +kernel), List.mem_of_getElem? (i := 408) (by decide +kernel)⟩
theorem lw_p4 : lw_okq (⟨"TreacleTank$Tank", "plateOf", "(LTreacleTank$Ring;I)I"⟩, 19) := ⟨⟨by decide +kernel, by decide +kernel⟩, List.mem_of_getElem? (i := 34) (by decide +kernel), List.mem_of_getElem? (i := 411) (by decide +kernel), List.mem_of_getElem? (i := 412) (by decide +kernel)⟩
theorem lw_p5 : lw_okq (⟨"TreacleTank$Tank", "steelOf", "(LTreacleTank$Ring;)I"⟩, 19) := ⟨⟨by decide +kernel, by decide +kernel⟩, List.mem_of_getElem? (i := 34) (by decide +kernel), List.mem_of_getElem? (i := 415) (by decide +kernel), List.mem_of_getElem? (i := 416) (by decide +kernel)⟩
theorem lw_p6 : lw_okq (⟨"TreacleTank$Tank", "mixHeat", "()V"⟩, 19) := ⟨⟨by decide +kernel, by decide +kernel⟩, List.mem_of_getElem? (i := 34) (by decide +kernel), List.mem_of_getElem? (i := 447) (by decide +kernel), List.mem_of_getElem? (i := 448) (by decide +kernel)⟩
theorem lw_p7 : lw_okq (⟨"TreacleTank$Tank", "workGas", "()V"⟩, 19) := ⟨⟨by decide +kernel, by decide +kernel⟩, List.mem_of_getElem? (i := 34) (by decide +kernel), List.mem_of_getElem? (i := 451) (by decide +kernel), List.mem_of_getElem? (i := 452) (by decide +kernel)⟩
theorem lw_p8 : lw_okq (⟨"TreacleTank$Tank", "isNearer", "(LTreacleTank$Ring;LTreacleTank$Ring;)Z"⟩, 19) := ⟨⟨by decide +kernel, by decide +kernel⟩, List.mem_of_getElem? (i := 34) (by decide +kernel), List.mem_of_getElem? (i := 491) (by decide +kernel), List.mem_of_getElem? (i := 492) (by decide +kernel)⟩
theorem lw_p9 : lw_okq (⟨"TreacleTank$Tape", "scanToken", "(I)I"⟩, 6) := ⟨⟨by decide +kernel, by decide +kernel⟩, List.mem_of_getElem? (i := 226) (by decide +kernel), List.mem_of_getElem? (i := 527) (by decide +kernel), List.mem_of_getElem? (i := 528) (by decide +kernel)⟩
theorem lw_p10 : lw_okq (⟨"TreacleTank$Tape", "scanNumber", "(I)I"⟩, 6) := ⟨⟨by decide +kernel, by decide +kernel⟩, List.mem_of_getElem? (i := 226) (by decide +kernel), List.mem_of_getElem? (i := 534) (by decide +kernel), List.mem_of_getElem? (i := 535) (by decide +kernel)⟩
theorem lw_p11 : lw_okq (⟨"TreacleTank$Tape", "putToken", "(III)V"⟩, 6) := ⟨⟨by decide +kernel, by decide +kernel⟩, List.mem_of_getElem? (i := 226) (by decide +kernel), List.mem_of_getElem? (i := 538) (by decide +kernel), List.mem_of_getElem? (i := 539) (by decide +kernel)⟩
theorem lw_p12 : lw_okq (⟨"TreacleTank$Tape", "scanWord", "(I)I"⟩, 6) := ⟨⟨by decide +kernel, by decide +kernel⟩, List.mem_of_getElem? (i := 226) (by decide +kernel), List.mem_of_getElem? (i := 545) (by decide +kernel), List.mem_of_getElem? (i := 546) (by decide +kernel)⟩
theorem lw_p13 : lw_okq (⟨"TreacleTank$Tape", "spells", "(IILjava/lang/String;)Z"⟩, 6) := ⟨⟨by decide +kernel, by decide +kernel⟩, List.mem_of_getElem? (i := 226) (by decide +kernel), List.mem_of_getElem? (i := 577) (by decide +kernel), List.mem_of_getElem? (i := 578) (by decide +kernel)⟩
theorem lw_p14 : lw_okq (⟨"TreacleTank$Reader", "readClause", "(Z)Z"⟩, 11) := ⟨⟨by decide +kernel, by decide +kernel⟩, List.mem_of_getElem? (i := 256) (by decide +kernel), List.mem_of_getElem? (i := 632) (by decide +kernel), List.mem_of_getElem? (i := 633) (by decide +kernel)⟩
theorem lw_p15 : lw_okq (⟨"TreacleTank$Reader", "kind", "()I"⟩, 11) := ⟨⟨by decide +kernel, by decide +kernel⟩, List.mem_of_getElem? (i := 256) (by decide +kernel), List.mem_of_getElem? (i := 636) (by decide +kernel), List.mem_of_getElem? (i := 637) (by decide +kernel)⟩
def lw_privs_1 : List (MethodName × Nat) := [(⟨"TreacleTank$Tank", "loadOf", "(LTreacleTank$Ring;)I"⟩, 19), (⟨"TreacleTank$Tank", "bearOrBurst", "()V"⟩, 19), (⟨"TreacleTank$Tank", "seekBurst", "()V"⟩, 19), (⟨"TreacleTank$Tank", "bearsOf", "(LTreacleTank$Ring;)I"⟩, 19), (⟨"TreacleTank$Tank", "plateOf", "(LTreacleTank$Ring;I)I"⟩, 19), (⟨"TreacleTank$Tank", "steelOf", "(LTreacleTank$Ring;)I"⟩, 19), (⟨"TreacleTank$Tank", "mixHeat", "()V"⟩, 19), (⟨"TreacleTank$Tank", "workGas", "()V"⟩, 19), (⟨"TreacleTank$Tank", "isNearer", "(LTreacleTank$Ring;LTreacleTank$Ring;)Z"⟩, 19), (⟨"TreacleTank$Tape", "scanToken", "(I)I"⟩, 6), (⟨"TreacleTank$Tape", "scanNumber", "(I)I"⟩, 6), (⟨"TreacleTank$Tape", "putToken", "(III)V"⟩, 6), (⟨"TreacleTank$Tape", "scanWord", "(I)I"⟩, 6), (⟨"TreacleTank$Tape", "spells", "(IILjava/lang/String;)Z"⟩, 6), (⟨"TreacleTank$Reader", "readClause", "(Z)Z"⟩, 11), (⟨"TreacleTank$Reader", "kind", "()I"⟩, 11)]
theorem lw_r1 : ∀ q ∈ lw_privs_1, lw_okq q := List.forall_mem_cons.mpr ⟨lw_p0, List.forall_mem_cons.mpr ⟨lw_p1, List.forall_mem_cons.mpr ⟨lw_p2, List.forall_mem_cons.mpr ⟨lw_p3, List.forall_mem_cons.mpr ⟨lw_p4, List.forall_mem_cons.mpr ⟨lw_p5, List.forall_mem_cons.mpr ⟨lw_p6, List.forall_mem_cons.mpr ⟨lw_p7, List.forall_mem_cons.mpr ⟨lw_p8, List.forall_mem_cons.mpr ⟨lw_p9, List.forall_mem_cons.mpr ⟨lw_p10, List.forall_mem_cons.mpr ⟨lw_p11, List.forall_mem_cons.mpr ⟨lw_p12, List.forall_mem_cons.mpr ⟨lw_p13, List.forall_mem_cons.mpr ⟨lw_p14, List.forall_mem_cons.mpr ⟨lw_p15, fun _ h => absurd h List.not_mem_nil⟩⟩⟩⟩⟩⟩⟩⟩⟩⟩⟩⟩⟩⟩⟩⟩
theorem lw_p16 : lw_okq (⟨"TreacleTank$Reader", "refuse", "(I)Z"⟩, 11) := ⟨⟨by decide +kernel, by decide +kernel⟩, List.mem_of_getElem? (i := 256) (by decide +kernel), List.mem_of_getElem? (i := 643) (by decide +kernel), List.mem_of_getElem? (i := 644) (by decide +kernel)⟩
theorem lw_p17 : lw_okq (⟨"TreacleTank$Reader", "readHead", "(I)Z"⟩, 11) := ⟨⟨by decide +kernel, by decide +kernel⟩, List.mem_of_getElem? (i := 256) (by decide +kernel), List.mem_of_getElem? (i := 647) (by decide +kernel), List.mem_of_getElem? (i := 648) (by decide +kernel)⟩
theorem lw_p18 : lw_okq (⟨"TreacleTank$Reader", "readNumber", "(II)Z"⟩, 11) := ⟨⟨by decide +kernel, by decide +kernel⟩, List.mem_of_getElem? (i := 256) (by decide +kernel), List.mem_of_getElem? (i := 651) (by decide +kernel), List.mem_of_getElem? (i := 652) (by decide +kernel)⟩
theorem lw_p19 : lw_okq (⟨"TreacleTank$Reader", "value", "()I"⟩, 11) := ⟨⟨by decide +kernel, by decide +kernel⟩, List.mem_of_getElem? (i := 256) (by decide +kernel), List.mem_of_getElem? (i := 655) (by decide +kernel), List.mem_of_getElem? (i := 656) (by decide +kernel)⟩
theorem lw_p20 : lw_okq (⟨"TreacleTank$Reader", "expect", "(I)Z"⟩, 11) := ⟨⟨by decide +kernel, by decide +kernel⟩, List.mem_of_getElem? (i := 256) (by decide +kernel), List.mem_of_getElem? (i := 660) (by decide +kernel), List.mem_of_getElem? (i := 661) (by decide +kernel)⟩
theorem lw_p21 : lw_okq (⟨"TreacleTank$Reader", "passes", "(I)Z"⟩, 11) := ⟨⟨by decide +kernel, by decide +kernel⟩, List.mem_of_getElem? (i := 256) (by decide +kernel), List.mem_of_getElem? (i := 664) (by decide +kernel), List.mem_of_getElem? (i := 665) (by decide +kernel)⟩
theorem lw_p22 : lw_okq (⟨"TreacleTank$Reader", "readTest", "(I)Z"⟩, 11) := ⟨⟨by decide +kernel, by decide +kernel⟩, List.mem_of_getElem? (i := 256) (by decide +kernel), List.mem_of_getElem? (i := 668) (by decide +kernel), List.mem_of_getElem? (i := 669) (by decide +kernel)⟩
theorem lw_p23 : lw_okq (⟨"TreacleTank$Reader", "readFact", "(I)Z"⟩, 11) := ⟨⟨by decide +kernel, by decide +kernel⟩, List.mem_of_getElem? (i := 256) (by decide +kernel), List.mem_of_getElem? (i := 672) (by decide +kernel), List.mem_of_getElem? (i := 673) (by decide +kernel)⟩
theorem lw_p24 : lw_okq (⟨"TreacleTank$Reader", "readComparison", "()Z"⟩, 11) := ⟨⟨by decide +kernel, by decide +kernel⟩, List.mem_of_getElem? (i := 256) (by decide +kernel), List.mem_of_getElem? (i := 676) (by decide +kernel), List.mem_of_getElem? (i := 677) (by decide +kernel)⟩
theorem lw_p25 : lw_okq (⟨"TreacleTank$Reader", "readValue", "()Z"⟩, 11) := ⟨⟨by decide +kernel, by decide +kernel⟩, List.mem_of_getElem? (i := 256) (by decide +kernel), List.mem_of_getElem? (i := 680) (by decide +kernel), List.mem_of_getElem? (i := 681) (by decide +kernel)⟩
theorem lw_p26 : lw_okq (⟨"TreacleTank$Reader", "putStep", "(I)V"⟩, 11) := ⟨⟨by decide +kernel, by decide +kernel⟩, List.mem_of_getElem? (i := 256) (by decide +kernel), List.mem_of_getElem? (i := 684) (by decide +kernel), List.mem_of_getElem? (i := 685) (by decide +kernel)⟩
theorem lw_p27 : lw_okq (⟨"TreacleTank$Reader", "keepClause", "(I)V"⟩, 11) := ⟨⟨by decide +kernel, by decide +kernel⟩, List.mem_of_getElem? (i := 256) (by decide +kernel), List.mem_of_getElem? (i := 688) (by decide +kernel), List.mem_of_getElem? (i := 689) (by decide +kernel)⟩
theorem lw_p28 : lw_okq (⟨"TreacleTank", "areThere", "(II)Z"⟩, 10) := ⟨⟨by decide +kernel, by decide +kernel⟩, List.mem_of_getElem? (i := 20) (by decide +kernel), List.mem_of_getElem? (i := 747) (by decide +kernel), List.mem_of_getElem? (i := 748) (by decide +kernel)⟩
theorem lw_p29 : lw_okq (⟨"TreacleTank$Judge", "goOn", "(II)I"⟩, 2) := ⟨⟨by decide +kernel, by decide +kernel⟩, List.mem_of_getElem? (i := 298) (by decide +kernel), List.mem_of_getElem? (i := 768) (by decide +kernel), List.mem_of_getElem? (i := 769) (by decide +kernel)⟩
theorem lw_p30 : lw_okq (⟨"TreacleTank$Judge", "valueOf", "(I)I"⟩, 2) := ⟨⟨by decide +kernel, by decide +kernel⟩, List.mem_of_getElem? (i := 298) (by decide +kernel), List.mem_of_getElem? (i := 772) (by decide +kernel), List.mem_of_getElem? (i := 773) (by decide +kernel)⟩
theorem lw_p31 : lw_okq (⟨"TreacleTank", "timesAsSeen", "(II)I"⟩, 10) := ⟨⟨by decide +kernel, by decide +kernel⟩, List.mem_of_getElem? (i := 20) (by decide +kernel), List.mem_of_getElem? (i := 817) (by decide +kernel), List.mem_of_getElem? (i := 818) (by decide +kernel)⟩
def lw_privs_2 : List (MethodName × Nat) := [(⟨"TreacleTank$Reader", "refuse", "(I)Z"⟩, 11), (⟨"TreacleTank$Reader", "readHead", "(I)Z"⟩, 11), (⟨"TreacleTank$Reader", "readNumber", "(II)Z"⟩, 11), (⟨"TreacleTank$Reader", "value", "()I"⟩, 11), (⟨"TreacleTank$Reader", "expect", "(I)Z"⟩, 11), (⟨"TreacleTank$Reader", "passes", "(I)Z"⟩, 11), (⟨"TreacleTank$Reader", "readTest", "(I)Z"⟩, 11), (⟨"TreacleTank$Reader", "readFact", "(I)Z"⟩, 11), (⟨"TreacleTank$Reader", "readComparison", "()Z"⟩, 11), (⟨"TreacleTank$Reader", "readValue", "()Z"⟩, 11), (⟨"TreacleTank$Reader", "putStep", "(I)V"⟩, 11), (⟨"TreacleTank$Reader", "keepClause", "(I)V"⟩, 11), (⟨"TreacleTank", "areThere", "(II)Z"⟩, 10), (⟨"TreacleTank$Judge", "goOn", "(II)I"⟩, 2), (⟨"TreacleTank$Judge", "valueOf", "(I)I"⟩, 2), (⟨"TreacleTank", "timesAsSeen", "(II)I"⟩, 10)]
theorem lw_r2 : ∀ q ∈ lw_privs_2, lw_okq q := List.forall_mem_cons.mpr ⟨lw_p16, List.forall_mem_cons.mpr ⟨lw_p17, List.forall_mem_cons.mpr ⟨lw_p18, List.forall_mem_cons.mpr ⟨lw_p19, List.forall_mem_cons.mpr ⟨lw_p20, List.forall_mem_cons.mpr ⟨lw_p21, List.forall_mem_cons.mpr ⟨lw_p22, List.forall_mem_cons.mpr ⟨lw_p23, List.forall_mem_cons.mpr ⟨lw_p24, List.forall_mem_cons.mpr ⟨lw_p25, List.forall_mem_cons.mpr ⟨lw_p26, List.forall_mem_cons.mpr ⟨lw_p27, List.forall_mem_cons.mpr ⟨lw_p28, List.forall_mem_cons.mpr ⟨lw_p29, List.forall_mem_cons.mpr ⟨lw_p30, List.forall_mem_cons.mpr ⟨lw_p31, fun _ h => absurd h List.not_mem_nil⟩⟩⟩⟩⟩⟩⟩⟩⟩⟩⟩⟩⟩⟩⟩⟩
theorem lw_p32 : lw_okq (⟨"TreacleTank$Tank", "leastThicker", "(LTreacleTank$Ring;)I"⟩, 19) := ⟨⟨by decide +kernel, by decide +kernel⟩, List.mem_of_getElem? (i := 34) (by decide +kernel), List.mem_of_getElem? (i := 854) (by decide +kernel), List.mem_of_getElem? (i := 855) (by decide +kernel)⟩
theorem lw_p33 : lw_okq (⟨"TreacleTank$Tank", "fullLoadOf", "(LTreacleTank$Ring;)I"⟩, 19) := ⟨⟨by decide +kernel, by decide +kernel⟩, List.mem_of_getElem? (i := 34) (by decide +kernel), List.mem_of_getElem? (i := 858) (by decide +kernel), List.mem_of_getElem? (i := 859) (by decide +kernel)⟩
theorem lw_p34 : lw_okq (⟨"TreacleTank", "menNamedBy", "(LTreacleTank$Text;)I"⟩, 10) := ⟨⟨by decide +kernel, by decide +kernel⟩, List.mem_of_getElem? (i := 20) (by decide +kernel), List.mem_of_getElem? (i := 884) (by decide +kernel), List.mem_of_getElem? (i := 885) (by decide +kernel)⟩
theorem lw_p35 : lw_okq (⟨"TreacleTank", "isLate", "(II)Z"⟩, 10) := ⟨⟨by decide +kernel, by decide +kernel⟩, List.mem_of_getElem? (i := 20) (by decide +kernel), List.mem_of_getElem? (i := 888) (by decide +kernel), List.mem_of_getElem? (i := 889) (by decide +kernel)⟩
theorem lw_p36 : lw_okq (⟨"TreacleTank$Streets", "leaveStains", "()V"⟩, 9) := ⟨⟨by decide +kernel, by decide +kernel⟩, List.mem_of_getElem? (i := 150) (by decide +kernel), List.mem_of_getElem? (i := 914) (by decide +kernel), List.mem_of_getElem? (i := 915) (by decide +kernel)⟩
theorem lw_p37 : lw_okq (⟨"TreacleTank$Streets", "flow", "(I)V"⟩, 9) := ⟨⟨by decide +kernel, by decide +kernel⟩, List.mem_of_getElem? (i := 150) (by decide +kernel), List.mem_of_getElem? (i := 927) (by decide +kernel), List.mem_of_getElem? (i := 928) (by decide +kernel)⟩
theorem lw_p38 : lw_okq (⟨"TreacleTank$Streets", "goOver", "(III)V"⟩, 9) := ⟨⟨by decide +kernel, by decide +kernel⟩, List.mem_of_getElem? (i := 150) (by decide +kernel), List.mem_of_getElem? (i := 931) (by decide +kernel), List.mem_of_getElem? (i := 932) (by decide +kernel)⟩
theorem lw_p39 : lw_okq (⟨"TreacleTankModel", "loadOf", "(I)I"⟩, 70) := ⟨⟨by decide +kernel, by decide +kernel⟩, List.mem_of_getElem? (i := 1003) (by decide +kernel), List.mem_of_getElem? (i := 1239) (by decide +kernel), List.mem_of_getElem? (i := 1240) (by decide +kernel)⟩
theorem lw_p40 : lw_okq (⟨"TreacleTankModel", "depth", "()I"⟩, 70) := ⟨⟨by decide +kernel, by decide +kernel⟩, List.mem_of_getElem? (i := 1003) (by decide +kernel), List.mem_of_getElem? (i := 1243) (by decide +kernel), List.mem_of_getElem? (i := 1244) (by decide +kernel)⟩
theorem lw_p41 : lw_okq (⟨"TreacleTankModel", "loadBy", "(IIII)I"⟩, 70) := ⟨⟨by decide +kernel, by decide +kernel⟩, List.mem_of_getElem? (i := 1003) (by decide +kernel), List.mem_of_getElem? (i := 1247) (by decide +kernel), List.mem_of_getElem? (i := 1248) (by decide +kernel)⟩
theorem lw_p42 : lw_okq (⟨"TreacleTankModel", "lower", "(I)I"⟩, 70) := ⟨⟨by decide +kernel, by decide +kernel⟩, List.mem_of_getElem? (i := 1003) (by decide +kernel), List.mem_of_getElem? (i := 1251) (by decide +kernel), List.mem_of_getElem? (i := 1252) (by decide +kernel)⟩
theorem lw_p43 : lw_okq (⟨"TreacleTankModel", "stands", "()Z"⟩, 70) := ⟨⟨by decide +kernel, by decide +kernel⟩, List.mem_of_getElem? (i := 1003) (by decide +kernel), List.mem_of_getElem? (i := 1259) (by decide +kernel), List.mem_of_getElem? (i := 1260) (by decide +kernel)⟩
theorem lw_p44 : lw_okq (⟨"TreacleTankModel", "bearsOf", "(I)I"⟩, 70) := ⟨⟨by decide +kernel, by decide +kernel⟩, List.mem_of_getElem? (i := 1003) (by decide +kernel), List.mem_of_getElem? (i := 1263) (by decide +kernel), List.mem_of_getElem? (i := 1264) (by decide +kernel)⟩
theorem lw_p45 : lw_okq (⟨"TreacleTankModel", "plateBy", "(II)I"⟩, 70) := ⟨⟨by decide +kernel, by decide +kernel⟩, List.mem_of_getElem? (i := 1003) (by decide +kernel), List.mem_of_getElem? (i := 1267) (by decide +kernel), List.mem_of_getElem? (i := 1268) (by decide +kernel)⟩
theorem lw_p46 : lw_okq (⟨"TreacleTankModel", "steelOf", "(I)I"⟩, 70) := ⟨⟨by decide +kernel, by decide +kernel⟩, List.mem_of_getElem? (i := 1003) (by decide +kernel), List.mem_of_getElem? (i := 1271) (by decide +kernel), List.mem_of_getElem? (i := 1272) (by decide +kernel)⟩
theorem lw_p47 : lw_okq (⟨"TreacleTankModel", "stood", "()V"⟩, 70) := ⟨⟨by decide +kernel, by decide +kernel⟩, List.mem_of_getElem? (i := 1003) (by decide +kernel), List.mem_of_getElem? (i := 1275) (by decide +kernel), List.mem_of_getElem? (i := 1276) (by decide +kernel)⟩
def lw_privs_3 : List (MethodName × Nat) := [(⟨"TreacleTank$Tank", "leastThicker", "(LTreacleTank$Ring;)I"⟩, 19), (⟨"TreacleTank$Tank", "fullLoadOf", "(LTreacleTank$Ring;)I"⟩, 19), (⟨"TreacleTank", "menNamedBy", "(LTreacleTank$Text;)I"⟩, 10), (⟨"TreacleTank", "isLate", "(II)Z"⟩, 10), (⟨"TreacleTank$Streets", "leaveStains", "()V"⟩, 9), (⟨"TreacleTank$Streets", "flow", "(I)V"⟩, 9), (⟨"TreacleTank$Streets", "goOver", "(III)V"⟩, 9), (⟨"TreacleTankModel", "loadOf", "(I)I"⟩, 70), (⟨"TreacleTankModel", "depth", "()I"⟩, 70), (⟨"TreacleTankModel", "loadBy", "(IIII)I"⟩, 70), (⟨"TreacleTankModel", "lower", "(I)I"⟩, 70), (⟨"TreacleTankModel", "stands", "()Z"⟩, 70), (⟨"TreacleTankModel", "bearsOf", "(I)I"⟩, 70), (⟨"TreacleTankModel", "plateBy", "(II)I"⟩, 70), (⟨"TreacleTankModel", "steelOf", "(I)I"⟩, 70), (⟨"TreacleTankModel", "stood", "()V"⟩, 70)]
theorem lw_r3 : ∀ q ∈ lw_privs_3, lw_okq q := List.forall_mem_cons.mpr ⟨lw_p32, List.forall_mem_cons.mpr ⟨lw_p33, List.forall_mem_cons.mpr ⟨lw_p34, List.forall_mem_cons.mpr ⟨lw_p35, List.forall_mem_cons.mpr ⟨lw_p36, List.forall_mem_cons.mpr ⟨lw_p37, List.forall_mem_cons.mpr ⟨lw_p38, List.forall_mem_cons.mpr ⟨lw_p39, List.forall_mem_cons.mpr ⟨lw_p40, List.forall_mem_cons.mpr ⟨lw_p41, List.forall_mem_cons.mpr ⟨lw_p42, List.forall_mem_cons.mpr ⟨lw_p43, List.forall_mem_cons.mpr ⟨lw_p44, List.forall_mem_cons.mpr ⟨lw_p45, List.forall_mem_cons.mpr ⟨lw_p46, List.forall_mem_cons.mpr ⟨lw_p47, fun _ h => absurd h List.not_mem_nil⟩⟩⟩⟩⟩⟩⟩⟩⟩⟩⟩⟩⟩⟩⟩⟩
theorem lw_p48 : lw_okq (⟨"TreacleTankModel", "hour", "()V"⟩, 70) := ⟨⟨by decide +kernel, by decide +kernel⟩, List.mem_of_getElem? (i := 1003) (by decide +kernel), List.mem_of_getElem? (i := 1293) (by decide +kernel), List.mem_of_getElem? (i := 1294) (by decide +kernel)⟩
theorem lw_p49 : lw_okq (⟨"TreacleTankModel", "isRing", "(I)Z"⟩, 70) := ⟨⟨by decide +kernel, by decide +kernel⟩, List.mem_of_getElem? (i := 1003) (by decide +kernel), List.mem_of_getElem? (i := 1309) (by decide +kernel), List.mem_of_getElem? (i := 1310) (by decide +kernel)⟩
theorem lw_p50 : lw_okq (⟨"TreacleTankModel", "isNearer", "(II)Z"⟩, 70) := ⟨⟨by decide +kernel, by decide +kernel⟩, List.mem_of_getElem? (i := 1003) (by decide +kernel), List.mem_of_getElem? (i := 1317) (by decide +kernel), List.mem_of_getElem? (i := 1318) (by decide +kernel)⟩
theorem lw_p51 : lw_okq (⟨"TreacleTankModel", "put", "(I)V"⟩, 70) := ⟨⟨by decide +kernel, by decide +kernel⟩, List.mem_of_getElem? (i := 1003) (by decide +kernel), List.mem_of_getElem? (i := 1325) (by decide +kernel), List.mem_of_getElem? (i := 1326) (by decide +kernel)⟩
theorem lw_p52 : lw_okq (⟨"TreacleTankModel", "text", "(I)I"⟩, 70) := ⟨⟨by decide +kernel, by decide +kernel⟩, List.mem_of_getElem? (i := 1003) (by decide +kernel), List.mem_of_getElem? (i := 1337) (by decide +kernel), List.mem_of_getElem? (i := 1338) (by decide +kernel)⟩
theorem lw_p53 : lw_okq (⟨"TreacleTankModel", "blanks", "()V"⟩, 70) := ⟨⟨by decide +kernel, by decide +kernel⟩, List.mem_of_getElem? (i := 1003) (by decide +kernel), List.mem_of_getElem? (i := 1341) (by decide +kernel), List.mem_of_getElem? (i := 1342) (by decide +kernel)⟩
theorem lw_p54 : lw_okq (⟨"TreacleTankModel", "sign", "()I"⟩, 70) := ⟨⟨by decide +kernel, by decide +kernel⟩, List.mem_of_getElem? (i := 1003) (by decide +kernel), List.mem_of_getElem? (i := 1345) (by decide +kernel), List.mem_of_getElem? (i := 1346) (by decide +kernel)⟩
theorem lw_p55 : lw_okq (⟨"TreacleTankModel", "storyClause", "(I)V"⟩, 70) := ⟨⟨by decide +kernel, by decide +kernel⟩, List.mem_of_getElem? (i := 1003) (by decide +kernel), List.mem_of_getElem? (i := 1349) (by decide +kernel), List.mem_of_getElem? (i := 1350) (by decide +kernel)⟩
theorem lw_p56 : lw_okq (⟨"TreacleTankModel", "stands", "(Ljava/lang/String;)Z"⟩, 70) := ⟨⟨by decide +kernel, by decide +kernel⟩, List.mem_of_getElem? (i := 1003) (by decide +kernel), List.mem_of_getElem? (i := 1354) (by decide +kernel), List.mem_of_getElem? (i := 1355) (by decide +kernel)⟩
theorem lw_p57 : lw_okq (⟨"TreacleTankModel", "fails", "(II)V"⟩, 70) := ⟨⟨by decide +kernel, by decide +kernel⟩, List.mem_of_getElem? (i := 1003) (by decide +kernel), List.mem_of_getElem? (i := 1362) (by decide +kernel), List.mem_of_getElem? (i := 1363) (by decide +kernel)⟩
theorem lw_p58 : lw_okq (⟨"TreacleTankModel", "hasPrior", "(I)Z"⟩, 70) := ⟨⟨by decide +kernel, by decide +kernel⟩, List.mem_of_getElem? (i := 1003) (by decide +kernel), List.mem_of_getElem? (i := 1366) (by decide +kernel), List.mem_of_getElem? (i := 1367) (by decide +kernel)⟩
theorem lw_p59 : lw_okq (⟨"TreacleTankModel", "amount", "(II)I"⟩, 70) := ⟨⟨by decide +kernel, by decide +kernel⟩, List.mem_of_getElem? (i := 1003) (by decide +kernel), List.mem_of_getElem? (i := 1370) (by decide +kernel), List.mem_of_getElem? (i := 1371) (by decide +kernel)⟩
theorem lw_p60 : lw_okq (⟨"TreacleTankModel", "digits", "(I)I"⟩, 70) := ⟨⟨by decide +kernel, by decide +kernel⟩, List.mem_of_getElem? (i := 1003) (by decide +kernel), List.mem_of_getElem? (i := 1374) (by decide +kernel), List.mem_of_getElem? (i := 1375) (by decide +kernel)⟩
theorem lw_p61 : lw_okq (⟨"TreacleTankModel", "isDigit", "()Z"⟩, 70) := ⟨⟨by decide +kernel, by decide +kernel⟩, List.mem_of_getElem? (i := 1003) (by decide +kernel), List.mem_of_getElem? (i := 1378) (by decide +kernel), List.mem_of_getElem? (i := 1379) (by decide +kernel)⟩
theorem lw_p62 : lw_okq (⟨"TreacleTankModel", "test", "()V"⟩, 70) := ⟨⟨by decide +kernel, by decide +kernel⟩, List.mem_of_getElem? (i := 1003) (by decide +kernel), List.mem_of_getElem? (i := 1384) (by decide +kernel), List.mem_of_getElem? (i := 1385) (by decide +kernel)⟩
theorem lw_p63 : lw_okq (⟨"TreacleTankModel", "fact", "()Z"⟩, 70) := ⟨⟨by decide +kernel, by decide +kernel⟩, List.mem_of_getElem? (i := 1003) (by decide +kernel), List.mem_of_getElem? (i := 1388) (by decide +kernel), List.mem_of_getElem? (i := 1389) (by decide +kernel)⟩
def lw_privs_4 : List (MethodName × Nat) := [(⟨"TreacleTankModel", "hour", "()V"⟩, 70), (⟨"TreacleTankModel", "isRing", "(I)Z"⟩, 70), (⟨"TreacleTankModel", "isNearer", "(II)Z"⟩, 70), (⟨"TreacleTankModel", "put", "(I)V"⟩, 70), (⟨"TreacleTankModel", "text", "(I)I"⟩, 70), (⟨"TreacleTankModel", "blanks", "()V"⟩, 70), (⟨"TreacleTankModel", "sign", "()I"⟩, 70), (⟨"TreacleTankModel", "storyClause", "(I)V"⟩, 70), (⟨"TreacleTankModel", "stands", "(Ljava/lang/String;)Z"⟩, 70), (⟨"TreacleTankModel", "fails", "(II)V"⟩, 70), (⟨"TreacleTankModel", "hasPrior", "(I)Z"⟩, 70), (⟨"TreacleTankModel", "amount", "(II)I"⟩, 70), (⟨"TreacleTankModel", "digits", "(I)I"⟩, 70), (⟨"TreacleTankModel", "isDigit", "()Z"⟩, 70), (⟨"TreacleTankModel", "test", "()V"⟩, 70), (⟨"TreacleTankModel", "fact", "()Z"⟩, 70)]
theorem lw_r4 : ∀ q ∈ lw_privs_4, lw_okq q := List.forall_mem_cons.mpr ⟨lw_p48, List.forall_mem_cons.mpr ⟨lw_p49, List.forall_mem_cons.mpr ⟨lw_p50, List.forall_mem_cons.mpr ⟨lw_p51, List.forall_mem_cons.mpr ⟨lw_p52, List.forall_mem_cons.mpr ⟨lw_p53, List.forall_mem_cons.mpr ⟨lw_p54, List.forall_mem_cons.mpr ⟨lw_p55, List.forall_mem_cons.mpr ⟨lw_p56, List.forall_mem_cons.mpr ⟨lw_p57, List.forall_mem_cons.mpr ⟨lw_p58, List.forall_mem_cons.mpr ⟨lw_p59, List.forall_mem_cons.mpr ⟨lw_p60, List.forall_mem_cons.mpr ⟨lw_p61, List.forall_mem_cons.mpr ⟨lw_p62, List.forall_mem_cons.mpr ⟨lw_p63, fun _ h => absurd h List.not_mem_nil⟩⟩⟩⟩⟩⟩⟩⟩⟩⟩⟩⟩⟩⟩⟩⟩
theorem lw_p64 : lw_okq (⟨"TreacleTankModel", "opens", "(I)V"⟩, 70) := ⟨⟨by decide +kernel, by decide +kernel⟩, List.mem_of_getElem? (i := 1003) (by decide +kernel), List.mem_of_getElem? (i := 1393) (by decide +kernel), List.mem_of_getElem? (i := 1394) (by decide +kernel)⟩
theorem lw_p65 : lw_okq (⟨"TreacleTankModel", "compared", "()V"⟩, 70) := ⟨⟨by decide +kernel, by decide +kernel⟩, List.mem_of_getElem? (i := 1003) (by decide +kernel), List.mem_of_getElem? (i := 1397) (by decide +kernel), List.mem_of_getElem? (i := 1398) (by decide +kernel)⟩
theorem lw_p66 : lw_okq (⟨"TreacleTankModel", "sum", "()V"⟩, 70) := ⟨⟨by decide +kernel, by decide +kernel⟩, List.mem_of_getElem? (i := 1003) (by decide +kernel), List.mem_of_getElem? (i := 1401) (by decide +kernel), List.mem_of_getElem? (i := 1402) (by decide +kernel)⟩
theorem lw_p67 : lw_okq (⟨"TreacleTankModel", "value", "()V"⟩, 70) := ⟨⟨by decide +kernel, by decide +kernel⟩, List.mem_of_getElem? (i := 1003) (by decide +kernel), List.mem_of_getElem? (i := 1405) (by decide +kernel), List.mem_of_getElem? (i := 1406) (by decide +kernel)⟩
theorem lw_p68 : lw_okq (⟨"TreacleTankModel", "isCounted", "(I)V"⟩, 70) := ⟨⟨by decide +kernel, by decide +kernel⟩, List.mem_of_getElem? (i := 1003) (by decide +kernel), List.mem_of_getElem? (i := 1409) (by decide +kernel), List.mem_of_getElem? (i := 1410) (by decide +kernel)⟩
theorem lw_p69 : lw_okq (⟨"TreacleTankModel", "entry", "(II)V"⟩, 70) := ⟨⟨by decide +kernel, by decide +kernel⟩, List.mem_of_getElem? (i := 1003) (by decide +kernel), List.mem_of_getElem? (i := 1413) (by decide +kernel), List.mem_of_getElem? (i := 1414) (by decide +kernel)⟩
theorem lw_p70 : lw_okq (⟨"TreacleTankModel", "answers", "(I)V"⟩, 70) := ⟨⟨by decide +kernel, by decide +kernel⟩, List.mem_of_getElem? (i := 1003) (by decide +kernel), List.mem_of_getElem? (i := 1433) (by decide +kernel), List.mem_of_getElem? (i := 1434) (by decide +kernel)⟩
theorem lw_p71 : lw_okq (⟨"TreacleTankModel", "top", "()I"⟩, 70) := ⟨⟨by decide +kernel, by decide +kernel⟩, List.mem_of_getElem? (i := 1003) (by decide +kernel), List.mem_of_getElem? (i := 1437) (by decide +kernel), List.mem_of_getElem? (i := 1438) (by decide +kernel)⟩
theorem lw_p72 : lw_okq (⟨"TreacleTankModel", "ifTest", "()V"⟩, 70) := ⟨⟨by decide +kernel, by decide +kernel⟩, List.mem_of_getElem? (i := 1003) (by decide +kernel), List.mem_of_getElem? (i := 1445) (by decide +kernel), List.mem_of_getElem? (i := 1446) (by decide +kernel)⟩
theorem lw_p73 : lw_okq (⟨"TreacleTankModel", "takes", "(Ljava/lang/String;)Z"⟩, 70) := ⟨⟨by decide +kernel, by decide +kernel⟩, List.mem_of_getElem? (i := 1003) (by decide +kernel), List.mem_of_getElem? (i := 1450) (by decide +kernel), List.mem_of_getElem? (i := 1451) (by decide +kernel)⟩
theorem lw_p74 : lw_okq (⟨"TreacleTankModel", "ruleClause", "(I)V"⟩, 70) := ⟨⟨by decide +kernel, by decide +kernel⟩, List.mem_of_getElem? (i := 1003) (by decide +kernel), List.mem_of_getElem? (i := 1454) (by decide +kernel), List.mem_of_getElem? (i := 1455) (by decide +kernel)⟩
theorem lw_p75 : lw_okq (⟨"TreacleTankModel", "areStory", "(II)Z"⟩, 70) := ⟨⟨by decide +kernel, by decide +kernel⟩, List.mem_of_getElem? (i := 1003) (by decide +kernel), List.mem_of_getElem? (i := 1468) (by decide +kernel), List.mem_of_getElem? (i := 1469) (by decide +kernel)⟩
theorem lw_p76 : lw_okq (⟨"TreacleTankModel", "isFit", "(II)Z"⟩, 70) := ⟨⟨by decide +kernel, by decide +kernel⟩, List.mem_of_getElem? (i := 1003) (by decide +kernel), List.mem_of_getElem? (i := 1472) (by decide +kernel), List.mem_of_getElem? (i := 1473) (by decide +kernel)⟩
theorem lw_p77 : lw_okq (⟨"TreacleTankModel", "looks", "(I)V"⟩, 70) := ⟨⟨by decide +kernel, by decide +kernel⟩, List.mem_of_getElem? (i := 1003) (by decide +kernel), List.mem_of_getElem? (i := 1476) (by decide +kernel), List.mem_of_getElem? (i := 1477) (by decide +kernel)⟩
theorem lw_p78 : lw_okq (⟨"TreacleTankModel", "holds", "(I)Z"⟩, 70) := ⟨⟨by decide +kernel, by decide +kernel⟩, List.mem_of_getElem? (i := 1003) (by decide +kernel), List.mem_of_getElem? (i := 1480) (by decide +kernel), List.mem_of_getElem? (i := 1481) (by decide +kernel)⟩
theorem lw_p79 : lw_okq (⟨"TreacleTankModel", "answer", "(III)J"⟩, 70) := ⟨⟨by decide +kernel, by decide +kernel⟩, List.mem_of_getElem? (i := 1003) (by decide +kernel), List.mem_of_getElem? (i := 1484) (by decide +kernel), List.mem_of_getElem? (i := 1485) (by decide +kernel)⟩
def lw_privs_5 : List (MethodName × Nat) := [(⟨"TreacleTankModel", "opens", "(I)V"⟩, 70), (⟨"TreacleTankModel", "compared", "()V"⟩, 70), (⟨"TreacleTankModel", "sum", "()V"⟩, 70), (⟨"TreacleTankModel", "value", "()V"⟩, 70), (⟨"TreacleTankModel", "isCounted", "(I)V"⟩, 70), (⟨"TreacleTankModel", "entry", "(II)V"⟩, 70), (⟨"TreacleTankModel", "answers", "(I)V"⟩, 70), (⟨"TreacleTankModel", "top", "()I"⟩, 70), (⟨"TreacleTankModel", "ifTest", "()V"⟩, 70), (⟨"TreacleTankModel", "takes", "(Ljava/lang/String;)Z"⟩, 70), (⟨"TreacleTankModel", "ruleClause", "(I)V"⟩, 70), (⟨"TreacleTankModel", "areStory", "(II)Z"⟩, 70), (⟨"TreacleTankModel", "isFit", "(II)Z"⟩, 70), (⟨"TreacleTankModel", "looks", "(I)V"⟩, 70), (⟨"TreacleTankModel", "holds", "(I)Z"⟩, 70), (⟨"TreacleTankModel", "answer", "(III)J"⟩, 70)]
theorem lw_r5 : ∀ q ∈ lw_privs_5, lw_okq q := List.forall_mem_cons.mpr ⟨lw_p64, List.forall_mem_cons.mpr ⟨lw_p65, List.forall_mem_cons.mpr ⟨lw_p66, List.forall_mem_cons.mpr ⟨lw_p67, List.forall_mem_cons.mpr ⟨lw_p68, List.forall_mem_cons.mpr ⟨lw_p69, List.forall_mem_cons.mpr ⟨lw_p70, List.forall_mem_cons.mpr ⟨lw_p71, List.forall_mem_cons.mpr ⟨lw_p72, List.forall_mem_cons.mpr ⟨lw_p73, List.forall_mem_cons.mpr ⟨lw_p74, List.forall_mem_cons.mpr ⟨lw_p75, List.forall_mem_cons.mpr ⟨lw_p76, List.forall_mem_cons.mpr ⟨lw_p77, List.forall_mem_cons.mpr ⟨lw_p78, List.forall_mem_cons.mpr ⟨lw_p79, fun _ h => absurd h List.not_mem_nil⟩⟩⟩⟩⟩⟩⟩⟩⟩⟩⟩⟩⟩⟩⟩⟩
theorem lw_p80 : lw_okq (⟨"TreacleTankModel", "chanceOf", "(III)I"⟩, 70) := ⟨⟨by decide +kernel, by decide +kernel⟩, List.mem_of_getElem? (i := 1003) (by decide +kernel), List.mem_of_getElem? (i := 1504) (by decide +kernel), List.mem_of_getElem? (i := 1505) (by decide +kernel)⟩
theorem lw_p81 : lw_okq (⟨"TreacleTankModel", "weighs", "(II)J"⟩, 70) := ⟨⟨by decide +kernel, by decide +kernel⟩, List.mem_of_getElem? (i := 1003) (by decide +kernel), List.mem_of_getElem? (i := 1512) (by decide +kernel), List.mem_of_getElem? (i := 1513) (by decide +kernel)⟩
theorem lw_p82 : lw_okq (⟨"TreacleTankModel", "fullLoad", "(I)I"⟩, 70) := ⟨⟨by decide +kernel, by decide +kernel⟩, List.mem_of_getElem? (i := 1003) (by decide +kernel), List.mem_of_getElem? (i := 1543) (by decide +kernel), List.mem_of_getElem? (i := 1544) (by decide +kernel)⟩
theorem lw_p83 : lw_okq (⟨"TreacleTankModel", "moreOf", "(I)I"⟩, 70) := ⟨⟨by decide +kernel, by decide +kernel⟩, List.mem_of_getElem? (i := 1003) (by decide +kernel), List.mem_of_getElem? (i := 1551) (by decide +kernel), List.mem_of_getElem? (i := 1552) (by decide +kernel)⟩
theorem lw_p84 : lw_okq (⟨"TreacleTankModel", "isAsked", "(I)Z"⟩, 70) := ⟨⟨by decide +kernel, by decide +kernel⟩, List.mem_of_getElem? (i := 1003) (by decide +kernel), List.mem_of_getElem? (i := 1568) (by decide +kernel), List.mem_of_getElem? (i := 1569) (by decide +kernel)⟩
theorem lw_p85 : lw_okq (⟨"TreacleTankModel", "stains", "()V"⟩, 70) := ⟨⟨by decide +kernel, by decide +kernel⟩, List.mem_of_getElem? (i := 1003) (by decide +kernel), List.mem_of_getElem? (i := 1585) (by decide +kernel), List.mem_of_getElem? (i := 1586) (by decide +kernel)⟩
theorem lw_p86 : lw_okq (⟨"TreacleTankModel", "minute", "()V"⟩, 70) := ⟨⟨by decide +kernel, by decide +kernel⟩, List.mem_of_getElem? (i := 1003) (by decide +kernel), List.mem_of_getElem? (i := 1594) (by decide +kernel), List.mem_of_getElem? (i := 1595) (by decide +kernel)⟩
theorem lw_p87 : lw_okq (⟨"TreacleTankModel", "flows", "(III)V"⟩, 70) := ⟨⟨by decide +kernel, by decide +kernel⟩, List.mem_of_getElem? (i := 1003) (by decide +kernel), List.mem_of_getElem? (i := 1598) (by decide +kernel), List.mem_of_getElem? (i := 1599) (by decide +kernel)⟩
theorem lw_p88 : lw_okq (⟨"TreacleTankModel", "carries", "(I)V"⟩, 70) := ⟨⟨by decide +kernel, by decide +kernel⟩, List.mem_of_getElem? (i := 1003) (by decide +kernel), List.mem_of_getElem? (i := 1622) (by decide +kernel), List.mem_of_getElem? (i := 1623) (by decide +kernel)⟩
theorem lw_p89 : lw_okq (⟨"TreacleTankModel", "carry", "([I)V"⟩, 70) := ⟨⟨by decide +kernel, by decide +kernel⟩, List.mem_of_getElem? (i := 1003) (by decide +kernel), List.mem_of_getElem? (i := 1626) (by decide +kernel), List.mem_of_getElem? (i := 1627) (by decide +kernel)⟩
def lw_privs_6 : List (MethodName × Nat) := [(⟨"TreacleTankModel", "chanceOf", "(III)I"⟩, 70), (⟨"TreacleTankModel", "weighs", "(II)J"⟩, 70), (⟨"TreacleTankModel", "fullLoad", "(I)I"⟩, 70), (⟨"TreacleTankModel", "moreOf", "(I)I"⟩, 70), (⟨"TreacleTankModel", "isAsked", "(I)Z"⟩, 70), (⟨"TreacleTankModel", "stains", "()V"⟩, 70), (⟨"TreacleTankModel", "minute", "()V"⟩, 70), (⟨"TreacleTankModel", "flows", "(III)V"⟩, 70), (⟨"TreacleTankModel", "carries", "(I)V"⟩, 70), (⟨"TreacleTankModel", "carry", "([I)V"⟩, 70)]
theorem lw_r6 : ∀ q ∈ lw_privs_6, lw_okq q := List.forall_mem_cons.mpr ⟨lw_p80, List.forall_mem_cons.mpr ⟨lw_p81, List.forall_mem_cons.mpr ⟨lw_p82, List.forall_mem_cons.mpr ⟨lw_p83, List.forall_mem_cons.mpr ⟨lw_p84, List.forall_mem_cons.mpr ⟨lw_p85, List.forall_mem_cons.mpr ⟨lw_p86, List.forall_mem_cons.mpr ⟨lw_p87, List.forall_mem_cons.mpr ⟨lw_p88, List.forall_mem_cons.mpr ⟨lw_p89, fun _ h => absurd h List.not_mem_nil⟩⟩⟩⟩⟩⟩⟩⟩⟩⟩
def lw_privs : List (MethodName × Nat) := lw_privs_1 ++ (lw_privs_2 ++ (lw_privs_3 ++ (lw_privs_4 ++ (lw_privs_5 ++ (lw_privs_6)))))
def lw_tbl : List Cond := k2_sels lw_privs ++ tables_1
theorem lw_privs_ok : ∀ q ∈ lw_privs, lw_okq q := by
  show ∀ q ∈ lw_privs_1 ++ (lw_privs_2 ++ (lw_privs_3 ++ (lw_privs_4 ++ (lw_privs_5 ++ (lw_privs_6))))), lw_okq q
  exact List.forall_mem_append.mpr ⟨lw_r1, List.forall_mem_append.mpr ⟨lw_r2, List.forall_mem_append.mpr ⟨lw_r3, List.forall_mem_append.mpr ⟨lw_r4, List.forall_mem_append.mpr ⟨lw_r5, lw_r6⟩⟩⟩⟩⟩
-- ===== end of PART A; then your names; then what follows =====
/-! ===== BEGIN words of one list among another's, by their places ===== -/
theorem goodIn_r {big : List Cond} (ws : List Cond) (ps : List Nat) (hp : ws = ps.filterMap (fun i => big[i]?)) (h : ws.all goodWord = true) : GoodIn big ws := by
  intro w hw
  have h1 := List.all_eq_true.mp h w hw
  rw [hp] at hw
  obtain ⟨i, -, hi⟩ := List.mem_filterMap.mp hw
  have hm : w ∈ big := by first | exact List.mem_of_getElem? hi | exact List.getElem?_mem hi
  exact ⟨hm, good_of_word h1⟩
theorem goodIn_app {big a b : List Cond} (ha : GoodIn big a) (hb : GoodIn big b) : GoodIn big (a ++ b) := fun w h => (List.mem_append.mp h).elim (ha w) (hb w)
theorem goodIn_ca {big a b : List Cond} {c : Cond} (ha : GoodIn big (c :: a)) (hb : GoodIn big b) : GoodIn big (c :: (a ++ b)) := fun w h => (List.mem_cons.mp h).elim (fun e => ha w (List.mem_cons.mpr (Or.inl e))) (fun h => (List.mem_append.mp h).elim (fun h => ha w (List.mem_cons.mpr (Or.inr h))) (hb w))
theorem goodIn_sub {big ws : List Cond} (hm : ∀ w ∈ ws, w ∈ big) (h : ws.all goodWord = true) : GoodIn big ws := fun w hw => ⟨hm w hw, good_of_word (List.all_eq_true.mp h w hw)⟩
/-! ===== END ===== -/
def RX0 : String := "TreacleTank$Clause"
def TX0 : u_T := fun k => match k with
  | 0 => ("TreacleTank$Clause", "kind", "I", true)
  | 1 => ("TreacleTank$Clause", "who", "I", true)
  | 2 => ("TreacleTank$Clause", "number", "I", true)
  | _ => ("TreacleTank$Clause", "test", "[I", true)
def tyX0 : Nat → FieldType := fun k => match k with
  | 0 => .int
  | 1 => .int
  | 2 => .int
  | _ => .array .int
abbrev wsX00 : List Cond := u_ws RX0 TX0 4
theorem nmX0 : ∀ a, a < 4 → ∀ b, b < 4 → a ≠ b → (TX0 a).2.1 ≠ (TX0 b).2.1 := by decide +kernel
theorem tyX0_ok : ∀ k, k < 4 → parseFieldDescriptor (TX0 k).2.2.1 = some (tyX0 k) := by decide +kernel
abbrev cX0_init : ByteArray := prog_2_method_1_code
def yX0_init : MethodName := ⟨RX0, "<init>", "(III[I)V"⟩
def RX1 : String := "TreacleTank$Judge"
def TX1 : u_T := fun k => match k with
  | 0 => ("TreacleTank$Judge", "words", "[I", true)
  | _ => ("TreacleTank$Judge", "stack", "[I", true)
def tyX1 : Nat → FieldType := fun k => match k with
  | 0 => .array .int
  | _ => .array .int
abbrev wsX10 : List Cond := u_ws RX1 TX1 2
theorem nmX1 : ∀ a, a < 2 → ∀ b, b < 2 → a ≠ b → (TX1 a).2.1 ≠ (TX1 b).2.1 := by decide +kernel
theorem tyX1_ok : ∀ k, k < 2 → parseFieldDescriptor (TX1 k).2.2.1 = some (tyX1 k) := by decide +kernel
abbrev cX1_init : ByteArray := prog_3_method_1_code
def yX1_init : MethodName := ⟨RX1, "<init>", "()V"⟩
abbrev cX1_turnTo : ByteArray := prog_3_method_2_code
def yX1_turnTo : MethodName := ⟨RX1, "turnTo", "(LTreacleTank$Tank;I)V"⟩
abbrev cX1_holds : ByteArray := prog_3_method_3_code
def yX1_holds : MethodName := ⟨RX1, "holds", "(LTreacleTank$Clause;)Z"⟩
abbrev cX1_goOn : ByteArray := prog_3_method_4_code
def yX1_goOn : MethodName := ⟨RX1, "goOn", "(II)I"⟩
abbrev cX1_valueOf : ByteArray := prog_3_method_5_code
def yX1_valueOf : MethodName := ⟨RX1, "valueOf", "(I)I"⟩
abbrev cX1_joined : ByteArray := prog_3_method_6_code
def yX1_joined : MethodName := ⟨RX1, "joined", "(III)I"⟩
abbrev cX1_allWhenHold : ByteArray := prog_3_method_7_code
def yX1_allWhenHold : MethodName := ⟨RX1, "allWhenHold", "(LTreacleTank$Text;)Z"⟩
abbrev cX1_chanceOf : ByteArray := prog_3_method_8_code
def yX1_chanceOf : MethodName := ⟨RX1, "chanceOf", "(LTreacleTank$Text;I)I"⟩
abbrev cX1_weightOf : ByteArray := prog_3_method_9_code
def yX1_weightOf : MethodName := ⟨RX1, "weightOf", "(LTreacleTank$Text;[I)J"⟩
abbrev cX1_priorOf : ByteArray := prog_3_method_10_code
def yX1_priorOf : MethodName := ⟨RX1, "priorOf", "(LTreacleTank$Text;)I"⟩
def RX2 : String := "TreacleTank$Reader"
def TX2 : u_T := fun k => match k with
  | 0 => ("TreacleTank$Reader", "clauses", "[LTreacleTank$Clause;", true)
  | 1 => ("TreacleTank$Reader", "steps", "[I", true)
  | 2 => ("TreacleTank$Reader", "tape", "LTreacleTank$Tape;", true)
  | 3 => ("TreacleTank$Reader", "at", "I", false)
  | 4 => ("TreacleTank$Reader", "clauseCount", "I", false)
  | 5 => ("TreacleTank$Reader", "stepCount", "I", false)
  | 6 => ("TreacleTank$Reader", "parts", "I", false)
  | 7 => ("TreacleTank$Reader", "fault", "I", false)
  | 8 => ("TreacleTank$Reader", "who", "I", false)
  | 9 => ("TreacleTank$Reader", "number", "I", false)
  | _ => ("TreacleTank$Reader", "hasPrior", "Z", false)
def tyX2 : Nat → FieldType := fun k => match k with
  | 0 => .array (.object "TreacleTank$Clause")
  | 1 => .array .int
  | 2 => .object "TreacleTank$Tape"
  | 3 => .int
  | 4 => .int
  | 5 => .int
  | 6 => .int
  | 7 => .int
  | 8 => .int
  | 9 => .int
  | _ => .boolean
abbrev wsX20 : List Cond := u_ws RX2 TX2 11
theorem nmX2 : ∀ a, a < 11 → ∀ b, b < 11 → a ≠ b → (TX2 a).2.1 ≠ (TX2 b).2.1 := by decide +kernel
theorem tyX2_ok : ∀ k, k < 11 → parseFieldDescriptor (TX2 k).2.2.1 = some (tyX2 k) := by decide +kernel
abbrev cX2_init : ByteArray := prog_4_method_1_code
def yX2_init : MethodName := ⟨RX2, "<init>", "(LTreacleTank$Tape;)V"⟩
abbrev cX2_faultFound : ByteArray := prog_4_method_2_code
def yX2_faultFound : MethodName := ⟨RX2, "faultFound", "()I"⟩
abbrev cX2_read : ByteArray := prog_4_method_3_code
def yX2_read : MethodName := ⟨RX2, "read", "(Z)LTreacleTank$Text;"⟩
abbrev cX2_readClause : ByteArray := prog_4_method_4_code
def yX2_readClause : MethodName := ⟨RX2, "readClause", "(Z)Z"⟩
abbrev cX2_mayBegin : ByteArray := prog_4_method_5_code
def yX2_mayBegin : MethodName := ⟨RX2, "mayBegin", "(IZ)Z"⟩
abbrev cX2_readHead : ByteArray := prog_4_method_6_code
def yX2_readHead : MethodName := ⟨RX2, "readHead", "(I)Z"⟩
abbrev cX2_keepClause : ByteArray := prog_4_method_7_code
def yX2_keepClause : MethodName := ⟨RX2, "keepClause", "(I)V"⟩
abbrev cX2_readNumber : ByteArray := prog_4_method_8_code
def yX2_readNumber : MethodName := ⟨RX2, "readNumber", "(II)Z"⟩
abbrev cX2_readTest : ByteArray := prog_4_method_9_code
def yX2_readTest : MethodName := ⟨RX2, "readTest", "(I)Z"⟩
abbrev cX2_readFact : ByteArray := prog_4_method_10_code
def yX2_readFact : MethodName := ⟨RX2, "readFact", "(I)Z"⟩
abbrev cX2_readComparison : ByteArray := prog_4_method_11_code
def yX2_readComparison : MethodName := ⟨RX2, "readComparison", "()Z"⟩
abbrev cX2_readValue : ByteArray := prog_4_method_12_code
def yX2_readValue : MethodName := ⟨RX2, "readValue", "()Z"⟩
abbrev cX2_putStep : ByteArray := prog_4_method_13_code
def yX2_putStep : MethodName := ⟨RX2, "putStep", "(I)V"⟩
abbrev cX2_kind : ByteArray := prog_4_method_14_code
def yX2_kind : MethodName := ⟨RX2, "kind", "()I"⟩
abbrev cX2_value : ByteArray := prog_4_method_15_code
def yX2_value : MethodName := ⟨RX2, "value", "()I"⟩
abbrev cX2_passes : ByteArray := prog_4_method_16_code
def yX2_passes : MethodName := ⟨RX2, "passes", "(I)Z"⟩
abbrev cX2_expect : ByteArray := prog_4_method_17_code
def yX2_expect : MethodName := ⟨RX2, "expect", "(I)Z"⟩
abbrev cX2_refuse : ByteArray := prog_4_method_18_code
def yX2_refuse : MethodName := ⟨RX2, "refuse", "(I)Z"⟩
def RX3 : String := "TreacleTank$Ring"
def TX3 : u_T := fun k => match k with
  | 0 => ("TreacleTank$Ring", "edge", "I", false)
  | 1 => ("TreacleTank$Ring", "feet", "I", false)
  | 2 => ("TreacleTank$Ring", "drawn", "I", false)
  | 3 => ("TreacleTank$Ring", "built", "I", false)
  | 4 => ("TreacleTank$Ring", "strength", "I", false)
  | 5 => ("TreacleTank$Ring", "brittle", "I", false)
  | 6 => ("TreacleTank$Ring", "holes", "I", false)
  | 7 => ("TreacleTank$Ring", "rivets", "I", false)
  | 8 => ("TreacleTank$Ring", "coins", "I", false)
  | _ => ("TreacleTank$Ring", "stood", "I", false)
def tyX3 : Nat → FieldType := fun k => match k with
  | 0 => .int
  | 1 => .int
  | 2 => .int
  | 3 => .int
  | 4 => .int
  | 5 => .int
  | 6 => .int
  | 7 => .int
  | 8 => .int
  | _ => .int
abbrev wsX30 : List Cond := u_ws RX3 TX3 10
theorem nmX3 : ∀ a, a < 10 → ∀ b, b < 10 → a ≠ b → (TX3 a).2.1 ≠ (TX3 b).2.1 := by decide +kernel
theorem tyX3_ok : ∀ k, k < 10 → parseFieldDescriptor (TX3 k).2.2.1 = some (tyX3 k) := by decide +kernel
abbrev cX3_init : ByteArray := prog_5_method_1_code
def yX3_init : MethodName := ⟨RX3, "<init>", "()V"⟩
abbrev cX3_shape : ByteArray := prog_5_method_2_code
def yX3_shape : MethodName := ⟨RX3, "shape", "(III)V"⟩
abbrev cX3_makeOf : ByteArray := prog_5_method_3_code
def yX3_makeOf : MethodName := ⟨RX3, "makeOf", "(III)V"⟩
abbrev cX3_hold : ByteArray := prog_5_method_4_code
def yX3_hold : MethodName := ⟨RX3, "hold", "(II)V"⟩
abbrev cX3_copyFrom : ByteArray := prog_5_method_5_code
def yX3_copyFrom : MethodName := ⟨RX3, "copyFrom", "(LTreacleTank$Ring;)V"⟩
def RX4 : String := "TreacleTank$State"
def TX4 : u_T := fun k => match k with
  | 0 => ("TreacleTank$State", "tank", "LTreacleTank$Tank;", true)
  | 1 => ("TreacleTank$State", "streets", "LTreacleTank$Streets;", true)
  | 2 => ("TreacleTank$State", "witnesses", "LTreacleTank$Witnesses;", true)
  | 3 => ("TreacleTank$State", "seen", "[I", true)
  | _ => ("TreacleTank$State", "looked", "[I", true)
def tyX4 : Nat → FieldType := fun k => match k with
  | 0 => .object "TreacleTank$Tank"
  | 1 => .object "TreacleTank$Streets"
  | 2 => .object "TreacleTank$Witnesses"
  | 3 => .array .int
  | _ => .array .int
abbrev wsX40 : List Cond := u_ws RX4 TX4 5
theorem nmX4 : ∀ a, a < 5 → ∀ b, b < 5 → a ≠ b → (TX4 a).2.1 ≠ (TX4 b).2.1 := by decide +kernel
theorem tyX4_ok : ∀ k, k < 5 → parseFieldDescriptor (TX4 k).2.2.1 = some (tyX4 k) := by decide +kernel
abbrev cX4_init : ByteArray := prog_6_method_1_code
def yX4_init : MethodName := ⟨RX4, "<init>", "()V"⟩
abbrev cX4_copyFrom : ByteArray := prog_6_method_2_code
def yX4_copyFrom : MethodName := ⟨RX4, "copyFrom", "(LTreacleTank$State;)V"⟩
def RX5 : String := "TreacleTank$Streets"
def TX5 : u_T := fun k => match k with
  | 0 => ("TreacleTank$Streets", "heights", "[I", true)
  | 1 => ("TreacleTank$Streets", "treacle", "[I", true)
  | 2 => ("TreacleTank$Streets", "stain", "[I", true)
  | 3 => ("TreacleTank$Streets", "came", "[I", true)
  | 4 => ("TreacleTank$Streets", "change", "[I", true)
  | 5 => ("TreacleTank$Streets", "waved", "Z", false)
  | 6 => ("TreacleTank$Streets", "passed", "I", false)
  | 7 => ("TreacleTank$Streets", "easy", "I", false)
  | _ => ("TreacleTank$Streets", "stiff", "I", false)
def tyX5 : Nat → FieldType := fun k => match k with
  | 0 => .array .int
  | 1 => .array .int
  | 2 => .array .int
  | 3 => .array .int
  | 4 => .array .int
  | 5 => .boolean
  | 6 => .int
  | 7 => .int
  | _ => .int
abbrev wsX50 : List Cond := u_ws RX5 TX5 9
theorem nmX5 : ∀ a, a < 9 → ∀ b, b < 9 → a ≠ b → (TX5 a).2.1 ≠ (TX5 b).2.1 := by decide +kernel
theorem tyX5_ok : ∀ k, k < 9 → parseFieldDescriptor (TX5 k).2.2.1 = some (tyX5 k) := by decide +kernel
abbrev cX5_init : ByteArray := prog_7_method_1_code
def yX5_init : MethodName := ⟨RX5, "<init>", "()V"⟩
abbrev cX5_copyFrom : ByteArray := prog_7_method_2_code
def yX5_copyFrom : MethodName := ⟨RX5, "copyFrom", "(LTreacleTank$Streets;)V"⟩
abbrev cX5_changeGround : ByteArray := prog_7_method_3_code
def yX5_changeGround : MethodName := ⟨RX5, "changeGround", "(II)I"⟩
abbrev cX5_startWave : ByteArray := prog_7_method_4_code
def yX5_startWave : MethodName := ⟨RX5, "startWave", "(IIII)V"⟩
abbrev cX5_passMinutes : ByteArray := prog_7_method_5_code
def yX5_passMinutes : MethodName := ⟨RX5, "passMinutes", "(I)I"⟩
abbrev cX5_flow : ByteArray := prog_7_method_6_code
def yX5_flow : MethodName := ⟨RX5, "flow", "(I)V"⟩
abbrev cX5_goOver : ByteArray := prog_7_method_7_code
def yX5_goOver : MethodName := ⟨RX5, "goOver", "(III)V"⟩
abbrev cX5_leaveStains : ByteArray := prog_7_method_8_code
def yX5_leaveStains : MethodName := ⟨RX5, "leaveStains", "()V"⟩
abbrev cX5_ofPlace : ByteArray := prog_7_method_9_code
def yX5_ofPlace : MethodName := ⟨RX5, "ofPlace", "(II)I"⟩
def RX6 : String := "TreacleTank$Tank"
def TX6 : u_T := fun k => match k with
  | 0 => ("TreacleTank$Tank", "rings", "[LTreacleTank$Ring;", true)
  | 1 => ("TreacleTank$Tank", "layerFeet", "[I", true)
  | 2 => ("TreacleTank$Tank", "layerHeat", "[I", true)
  | 3 => ("TreacleTank$Tank", "begun", "Z", false)
  | 4 => ("TreacleTank$Tank", "now", "I", false)
  | 5 => ("TreacleTank$Tank", "air", "I", false)
  | 6 => ("TreacleTank$Tank", "radius", "I", false)
  | 7 => ("TreacleTank$Tank", "weight", "I", false)
  | 8 => ("TreacleTank$Tank", "tire", "I", false)
  | 9 => ("TreacleTank$Tank", "vent", "I", false)
  | 10 => ("TreacleTank$Tank", "warm", "I", false)
  | 11 => ("TreacleTank$Tank", "ringCount", "I", false)
  | 12 => ("TreacleTank$Tank", "height", "I", false)
  | 13 => ("TreacleTank$Tank", "layerCount", "I", false)
  | 14 => ("TreacleTank$Tank", "depth", "I", false)
  | 15 => ("TreacleTank$Tank", "gas", "I", false)
  | 16 => ("TreacleTank$Tank", "fillings", "I", false)
  | 17 => ("TreacleTank$Tank", "burstRing", "I", false)
  | _ => ("TreacleTank$Tank", "burstHour", "I", false)
def tyX6 : Nat → FieldType := fun k => match k with
  | 0 => .array (.object "TreacleTank$Ring")
  | 1 => .array .int
  | 2 => .array .int
  | 3 => .boolean
  | 4 => .int
  | 5 => .int
  | 6 => .int
  | 7 => .int
  | 8 => .int
  | 9 => .int
  | 10 => .int
  | 11 => .int
  | 12 => .int
  | 13 => .int
  | 14 => .int
  | 15 => .int
  | 16 => .int
  | 17 => .int
  | _ => .int
abbrev wsX60 : List Cond := u_ws RX6 TX6 19
theorem nmX6 : ∀ a, a < 19 → ∀ b, b < 19 → a ≠ b → (TX6 a).2.1 ≠ (TX6 b).2.1 := by decide +kernel
theorem tyX6_ok : ∀ k, k < 19 → parseFieldDescriptor (TX6 k).2.2.1 = some (tyX6 k) := by decide +kernel
abbrev cX6_init : ByteArray := prog_8_method_1_code
def yX6_init : MethodName := ⟨RX6, "<init>", "()V"⟩
abbrev cX6_startAnew : ByteArray := prog_8_method_2_code
def yX6_startAnew : MethodName := ⟨RX6, "startAnew", "(IIIII)V"⟩
abbrev cX6_copyFrom : ByteArray := prog_8_method_3_code
def yX6_copyFrom : MethodName := ⟨RX6, "copyFrom", "(LTreacleTank$Tank;)V"⟩
abbrev cX6_hasRing : ByteArray := prog_8_method_4_code
def yX6_hasRing : MethodName := ⟨RX6, "hasRing", "(I)Z"⟩
abbrev cX6_hasBeen : ByteArray := prog_8_method_5_code
def yX6_hasBeen : MethodName := ⟨RX6, "hasBeen", "(I)Z"⟩
abbrev cX6_hasBurst : ByteArray := prog_8_method_6_code
def yX6_hasBurst : MethodName := ⟨RX6, "hasBurst", "()Z"⟩
abbrev cX6_nextRing : ByteArray := prog_8_method_7_code
def yX6_nextRing : MethodName := ⟨RX6, "nextRing", "()LTreacleTank$Ring;"⟩
abbrev cX6_raise : ByteArray := prog_8_method_8_code
def yX6_raise : MethodName := ⟨RX6, "raise", "(LTreacleTank$Ring;)I"⟩
abbrev cX6_addLayer : ByteArray := prog_8_method_9_code
def yX6_addLayer : MethodName := ⟨RX6, "addLayer", "(II)I"⟩
abbrev cX6_drawOff : ByteArray := prog_8_method_10_code
def yX6_drawOff : MethodName := ⟨RX6, "drawOff", "(I)I"⟩
abbrev cX6_changeAir : ByteArray := prog_8_method_11_code
def yX6_changeAir : MethodName := ⟨RX6, "changeAir", "(I)I"⟩
abbrev cX6_passHours : ByteArray := prog_8_method_12_code
def yX6_passHours : MethodName := ⟨RX6, "passHours", "(I)I"⟩
abbrev cX6_mixHeat : ByteArray := prog_8_method_13_code
def yX6_mixHeat : MethodName := ⟨RX6, "mixHeat", "()V"⟩
abbrev cX6_workGas : ByteArray := prog_8_method_14_code
def yX6_workGas : MethodName := ⟨RX6, "workGas", "()V"⟩
abbrev cX6_bearOrBurst : ByteArray := prog_8_method_15_code
def yX6_bearOrBurst : MethodName := ⟨RX6, "bearOrBurst", "()V"⟩
abbrev cX6_seekBurst : ByteArray := prog_8_method_16_code
def yX6_seekBurst : MethodName := ⟨RX6, "seekBurst", "()V"⟩
abbrev cX6_loadOf : ByteArray := prog_8_method_17_code
def yX6_loadOf : MethodName := ⟨RX6, "loadOf", "(LTreacleTank$Ring;)I"⟩
abbrev cX6_fullLoadOf : ByteArray := prog_8_method_18_code
def yX6_fullLoadOf : MethodName := ⟨RX6, "fullLoadOf", "(LTreacleTank$Ring;)I"⟩
abbrev cX6_steelOf : ByteArray := prog_8_method_19_code
def yX6_steelOf : MethodName := ⟨RX6, "steelOf", "(LTreacleTank$Ring;)I"⟩
abbrev cX6_plateOf : ByteArray := prog_8_method_20_code
def yX6_plateOf : MethodName := ⟨RX6, "plateOf", "(LTreacleTank$Ring;I)I"⟩
abbrev cX6_bearsOf : ByteArray := prog_8_method_21_code
def yX6_bearsOf : MethodName := ⟨RX6, "bearsOf", "(LTreacleTank$Ring;)I"⟩
abbrev cX6_number : ByteArray := prog_8_method_22_code
def yX6_number : MethodName := ⟨RX6, "number", "(I)I"⟩
abbrev cX6_ofLayer : ByteArray := prog_8_method_23_code
def yX6_ofLayer : MethodName := ⟨RX6, "ofLayer", "(II)I"⟩
abbrev cX6_ofRing : ByteArray := prog_8_method_24_code
def yX6_ofRing : MethodName := ⟨RX6, "ofRing", "(II)I"⟩
abbrev cX6_nearestRing : ByteArray := prog_8_method_25_code
def yX6_nearestRing : MethodName := ⟨RX6, "nearestRing", "()I"⟩
abbrev cX6_isNearer : ByteArray := prog_8_method_26_code
def yX6_isNearer : MethodName := ⟨RX6, "isNearer", "(LTreacleTank$Ring;LTreacleTank$Ring;)Z"⟩
abbrev cX6_tooWeakFor : ByteArray := prog_8_method_27_code
def yX6_tooWeakFor : MethodName := ⟨RX6, "tooWeakFor", "(II)I"⟩
abbrev cX6_feetNeeded : ByteArray := prog_8_method_28_code
def yX6_feetNeeded : MethodName := ⟨RX6, "feetNeeded", "(II)I"⟩
abbrev cX6_coinsNeeded : ByteArray := prog_8_method_29_code
def yX6_coinsNeeded : MethodName := ⟨RX6, "coinsNeeded", "()I"⟩
abbrev cX6_thicknessNeeded : ByteArray := prog_8_method_30_code
def yX6_thicknessNeeded : MethodName := ⟨RX6, "thicknessNeeded", "(I)I"⟩
abbrev cX6_leastThicker : ByteArray := prog_8_method_31_code
def yX6_leastThicker : MethodName := ⟨RX6, "leastThicker", "(LTreacleTank$Ring;)I"⟩
abbrev cX6_tellWords : ByteArray := prog_8_method_32_code
def yX6_tellWords : MethodName := ⟨RX6, "tellWords", "(I[I)V"⟩
def RX7 : String := "TreacleTank$Tape"
def TX7 : u_T := fun k => match k with
  | 0 => ("TreacleTank$Tape", "bytes", "[I", true)
  | 1 => ("TreacleTank$Tape", "kinds", "[I", true)
  | 2 => ("TreacleTank$Tape", "places", "[I", true)
  | 3 => ("TreacleTank$Tape", "values", "[I", true)
  | 4 => ("TreacleTank$Tape", "length", "I", false)
  | _ => ("TreacleTank$Tape", "tokens", "I", false)
def tyX7 : Nat → FieldType := fun k => match k with
  | 0 => .array .int
  | 1 => .array .int
  | 2 => .array .int
  | 3 => .array .int
  | 4 => .int
  | _ => .int
abbrev wsX70 : List Cond := u_ws RX7 TX7 6
theorem nmX7 : ∀ a, a < 6 → ∀ b, b < 6 → a ≠ b → (TX7 a).2.1 ≠ (TX7 b).2.1 := by decide +kernel
theorem tyX7_ok : ∀ k, k < 6 → parseFieldDescriptor (TX7 k).2.2.1 = some (tyX7 k) := by decide +kernel
abbrev cX7_init : ByteArray := prog_9_method_1_code
def yX7_init : MethodName := ⟨RX7, "<init>", "()V"⟩
abbrev cX7_hasRoom : ByteArray := prog_9_method_2_code
def yX7_hasRoom : MethodName := ⟨RX7, "hasRoom", "()Z"⟩
abbrev cX7_take : ByteArray := prog_9_method_3_code
def yX7_take : MethodName := ⟨RX7, "take", "(I)V"⟩
abbrev cX7_cut : ByteArray := prog_9_method_4_code
def yX7_cut : MethodName := ⟨RX7, "cut", "(I)Z"⟩
abbrev cX7_scan : ByteArray := prog_9_method_5_code
def yX7_scan : MethodName := ⟨RX7, "scan", "()V"⟩
abbrev cX7_scanToken : ByteArray := prog_9_method_6_code
def yX7_scanToken : MethodName := ⟨RX7, "scanToken", "(I)I"⟩
abbrev cX7_scanNumber : ByteArray := prog_9_method_7_code
def yX7_scanNumber : MethodName := ⟨RX7, "scanNumber", "(I)I"⟩
abbrev cX7_scanWord : ByteArray := prog_9_method_8_code
def yX7_scanWord : MethodName := ⟨RX7, "scanWord", "(I)I"⟩
abbrev cX7_spells : ByteArray := prog_9_method_9_code
def yX7_spells : MethodName := ⟨RX7, "spells", "(IILjava/lang/String;)Z"⟩
abbrev cX7_putToken : ByteArray := prog_9_method_10_code
def yX7_putToken : MethodName := ⟨RX7, "putToken", "(III)V"⟩
abbrev cX7_isDigit : ByteArray := prog_9_method_11_code
def yX7_isDigit : MethodName := ⟨RX7, "isDigit", "(I)Z"⟩
abbrev cX7_isSmall : ByteArray := prog_9_method_12_code
def yX7_isSmall : MethodName := ⟨RX7, "isSmall", "(I)Z"⟩
abbrev cX7_kindOfSign : ByteArray := prog_9_method_13_code
def yX7_kindOfSign : MethodName := ⟨RX7, "kindOfSign", "(I)I"⟩
abbrev cX7_wordOf : ByteArray := prog_9_method_14_code
def yX7_wordOf : MethodName := ⟨RX7, "wordOf", "(I)Ljava/lang/String;"⟩
abbrev cX7_valueWordOf : ByteArray := prog_9_method_15_code
def yX7_valueWordOf : MethodName := ⟨RX7, "valueWordOf", "(I)Ljava/lang/String;"⟩
def RX8 : String := "TreacleTank$Text"
def TX8 : u_T := fun k => match k with
  | _ => ("TreacleTank$Text", "clauses", "[LTreacleTank$Clause;", true)
def tyX8 : Nat → FieldType := fun k => match k with
  | _ => .array (.object "TreacleTank$Clause")
abbrev wsX80 : List Cond := u_ws RX8 TX8 1
theorem nmX8 : ∀ a, a < 1 → ∀ b, b < 1 → a ≠ b → (TX8 a).2.1 ≠ (TX8 b).2.1 := by decide +kernel
theorem tyX8_ok : ∀ k, k < 1 → parseFieldDescriptor (TX8 k).2.2.1 = some (tyX8 k) := by decide +kernel
abbrev cX8_init : ByteArray := prog_10_method_1_code
def yX8_init : MethodName := ⟨RX8, "<init>", "([LTreacleTank$Clause;I)V"⟩
def RX9 : String := "TreacleTank$Witnesses"
def TX9 : u_T := fun k => match k with
  | 0 => ("TreacleTank$Witnesses", "asked", "[I", true)
  | 1 => ("TreacleTank$Witnesses", "said", "[I", true)
  | 2 => ("TreacleTank$Witnesses", "read", "[I", true)
  | _ => ("TreacleTank$Witnesses", "size", "I", false)
def tyX9 : Nat → FieldType := fun k => match k with
  | 0 => .array .int
  | 1 => .array .int
  | 2 => .array .int
  | _ => .int
abbrev wsX90 : List Cond := u_ws RX9 TX9 4
theorem nmX9 : ∀ a, a < 4 → ∀ b, b < 4 → a ≠ b → (TX9 a).2.1 ≠ (TX9 b).2.1 := by decide +kernel
theorem tyX9_ok : ∀ k, k < 4 → parseFieldDescriptor (TX9 k).2.2.1 = some (tyX9 k) := by decide +kernel
abbrev cX9_init : ByteArray := prog_11_method_1_code
def yX9_init : MethodName := ⟨RX9, "<init>", "()V"⟩
abbrev cX9_copyFrom : ByteArray := prog_11_method_2_code
def yX9_copyFrom : MethodName := ⟨RX9, "copyFrom", "(LTreacleTank$Witnesses;)V"⟩
abbrev cX9_ask : ByteArray := prog_11_method_3_code
def yX9_ask : MethodName := ⟨RX9, "ask", "(III)I"⟩
abbrev cX9_leanOf : ByteArray := prog_11_method_4_code
def yX9_leanOf : MethodName := ⟨RX9, "leanOf", "(IIIIZ)I"⟩
abbrev cX9_commonDivisor : ByteArray := prog_11_method_5_code
def yX9_commonDivisor : MethodName := ⟨RX9, "commonDivisor", "(II)I"⟩
def RX10 : String := "TreacleTank"
def TX10 : u_T := fun k => match k with
  | 0 => ("TreacleTank", "here", "LTreacleTank$State;", true)
  | 1 => ("TreacleTank", "marks", "[LTreacleTank$State;", true)
  | 2 => ("TreacleTank", "tape", "LTreacleTank$Tape;", true)
  | 3 => ("TreacleTank", "reader", "LTreacleTank$Reader;", true)
  | 4 => ("TreacleTank", "judge", "LTreacleTank$Judge;", true)
  | 5 => ("TreacleTank", "stories", "[LTreacleTank$Text;", true)
  | 6 => ("TreacleTank", "rules", "[LTreacleTank$Text;", true)
  | 7 => ("TreacleTank", "chances", "[I", true)
  | 8 => ("TreacleTank", "storyCount", "I", false)
  | _ => ("TreacleTank", "ruleCount", "I", false)
def tyX10 : Nat → FieldType := fun k => match k with
  | 0 => .object "TreacleTank$State"
  | 1 => .array (.object "TreacleTank$State")
  | 2 => .object "TreacleTank$Tape"
  | 3 => .object "TreacleTank$Reader"
  | 4 => .object "TreacleTank$Judge"
  | 5 => .array (.object "TreacleTank$Text")
  | 6 => .array (.object "TreacleTank$Text")
  | 7 => .array .int
  | 8 => .int
  | _ => .int
abbrev wsX100 : List Cond := u_ws RX10 TX10 10
theorem nmX10 : ∀ a, a < 10 → ∀ b, b < 10 → a ≠ b → (TX10 a).2.1 ≠ (TX10 b).2.1 := by decide +kernel
theorem tyX10_ok : ∀ k, k < 10 → parseFieldDescriptor (TX10 k).2.2.1 = some (tyX10 k) := by decide +kernel
abbrev cX10_init : ByteArray := prog_1_method_1_code
def yX10_init : MethodName := ⟨RX10, "<init>", "()V"⟩
abbrev cX10_begin : ByteArray := prog_1_method_2_code
def yX10_begin : MethodName := ⟨RX10, "begin", "(IIIII)Z"⟩
abbrev cX10_ring : ByteArray := prog_1_method_3_code
def yX10_ring : MethodName := ⟨RX10, "ring", "(IIIIIIII)I"⟩
abbrev cX10_pour : ByteArray := prog_1_method_4_code
def yX10_pour : MethodName := ⟨RX10, "pour", "(II)I"⟩
abbrev cX10_draw : ByteArray := prog_1_method_5_code
def yX10_draw : MethodName := ⟨RX10, "draw", "(I)I"⟩
abbrev cX10_air : ByteArray := prog_1_method_6_code
def yX10_air : MethodName := ⟨RX10, "air", "(I)I"⟩
abbrev cX10_hours : ByteArray := prog_1_method_7_code
def yX10_hours : MethodName := ⟨RX10, "hours", "(I)I"⟩
abbrev cX10_count : ByteArray := prog_1_method_8_code
def yX10_count : MethodName := ⟨RX10, "count", "(I)I"⟩
abbrev cX10_layer : ByteArray := prog_1_method_9_code
def yX10_layer : MethodName := ⟨RX10, "layer", "(II)I"⟩
abbrev cX10_told : ByteArray := prog_1_method_10_code
def yX10_told : MethodName := ⟨RX10, "told", "(II)I"⟩
abbrev cX10_nearest : ByteArray := prog_1_method_11_code
def yX10_nearest : MethodName := ⟨RX10, "nearest", "()I"⟩
abbrev cX10_feed : ByteArray := prog_1_method_12_code
def yX10_feed : MethodName := ⟨RX10, "feed", "(IIIII)I"⟩
abbrev cX10_end : ByteArray := prog_1_method_13_code
def yX10_end : MethodName := ⟨RX10, "end", "(I)I"⟩
abbrev cX10_story : ByteArray := prog_1_method_14_code
def yX10_story : MethodName := ⟨RX10, "story", "()I"⟩
abbrev cX10_rule : ByteArray := prog_1_method_15_code
def yX10_rule : MethodName := ⟨RX10, "rule", "()I"⟩
abbrev cX10_fits : ByteArray := prog_1_method_16_code
def yX10_fits : MethodName := ⟨RX10, "fits", "(II)I"⟩
abbrev cX10_trace : ByteArray := prog_1_method_17_code
def yX10_trace : MethodName := ⟨RX10, "trace", "(II)I"⟩
abbrev cX10_chance : ByteArray := prog_1_method_18_code
def yX10_chance : MethodName := ⟨RX10, "chance", "(III)I"⟩
abbrev cX10_weight : ByteArray := prog_1_method_19_code
def yX10_weight : MethodName := ⟨RX10, "weight", "(II)J"⟩
abbrev cX10_odds : ByteArray := prog_1_method_20_code
def yX10_odds : MethodName := ⟨RX10, "odds", "(II)I"⟩
abbrev cX10_made : ByteArray := prog_1_method_21_code
def yX10_made : MethodName := ⟨RX10, "made", "(IIII)I"⟩
abbrev cX10_span : ByteArray := prog_1_method_22_code
def yX10_span : MethodName := ⟨RX10, "span", "(II)I"⟩
abbrev cX10_trial : ByteArray := prog_1_method_23_code
def yX10_trial : MethodName := ⟨RX10, "trial", "(II)I"⟩
abbrev cX10_needed : ByteArray := prog_1_method_24_code
def yX10_needed : MethodName := ⟨RX10, "needed", "(II)I"⟩
abbrev cX10_more : ByteArray := prog_1_method_25_code
def yX10_more : MethodName := ⟨RX10, "more", "()I"⟩
abbrev cX10_thicker : ByteArray := prog_1_method_26_code
def yX10_thicker : MethodName := ⟨RX10, "thicker", "(I)I"⟩
abbrev cX10_look : ByteArray := prog_1_method_27_code
def yX10_look : MethodName := ⟨RX10, "look", "(II)Z"⟩
abbrev cX10_owed : ByteArray := prog_1_method_28_code
def yX10_owed : MethodName := ⟨RX10, "owed", "()I"⟩
abbrev cX10_ground : ByteArray := prog_1_method_29_code
def yX10_ground : MethodName := ⟨RX10, "ground", "(III)I"⟩
abbrev cX10_wave : ByteArray := prog_1_method_30_code
def yX10_wave : MethodName := ⟨RX10, "wave", "(IIIII)Z"⟩
abbrev cX10_minutes : ByteArray := prog_1_method_31_code
def yX10_minutes : MethodName := ⟨RX10, "minutes", "(I)I"⟩
abbrev cX10_place : ByteArray := prog_1_method_32_code
def yX10_place : MethodName := ⟨RX10, "place", "(III)I"⟩
abbrev cX10_witness : ByteArray := prog_1_method_33_code
def yX10_witness : MethodName := ⟨RX10, "witness", "(III)I"⟩
abbrev cX10_lean : ByteArray := prog_1_method_34_code
def yX10_lean : MethodName := ⟨RX10, "lean", "(IIIII)I"⟩
abbrev cX10_mark : ByteArray := prog_1_method_35_code
def yX10_mark : MethodName := ⟨RX10, "mark", "(I)I"⟩
abbrev cX10_back : ByteArray := prog_1_method_36_code
def yX10_back : MethodName := ⟨RX10, "back", "(I)I"⟩
abbrev cX10_areThere : ByteArray := prog_1_method_37_code
def yX10_areThere : MethodName := ⟨RX10, "areThere", "(II)Z"⟩
abbrev cX10_timesAsSeen : ByteArray := prog_1_method_38_code
def yX10_timesAsSeen : MethodName := ⟨RX10, "timesAsSeen", "(II)I"⟩
abbrev cX10_menNamedBy : ByteArray := prog_1_method_39_code
def yX10_menNamedBy : MethodName := ⟨RX10, "menNamedBy", "(LTreacleTank$Text;)I"⟩
abbrev cX10_isLate : ByteArray := prog_1_method_40_code
def yX10_isLate : MethodName := ⟨RX10, "isLate", "(II)Z"⟩
abbrev cX10_isPlace : ByteArray := prog_1_method_41_code
def yX10_isPlace : MethodName := ⟨RX10, "isPlace", "(II)Z"⟩
abbrev cX10_isWithin : ByteArray := prog_1_method_42_code
def yX10_isWithin : MethodName := ⟨RX10, "isWithin", "(III)Z"⟩
def RX11 : String := "TreacleTankModel"
def TX11 : u_T := fun k => match k with
  | 0 => ("TreacleTankModel", "thrown", "I", false)
  | 1 => ("TreacleTankModel", "hasTank", "Z", false)
  | 2 => ("TreacleTankModel", "now", "I", false)
  | 3 => ("TreacleTankModel", "radius", "I", false)
  | 4 => ("TreacleTankModel", "weightOf", "I", false)
  | 5 => ("TreacleTankModel", "tire", "I", false)
  | 6 => ("TreacleTankModel", "vent", "I", false)
  | 7 => ("TreacleTankModel", "warm", "I", false)
  | 8 => ("TreacleTankModel", "rings", "I", false)
  | 9 => ("TreacleTankModel", "layers", "I", false)
  | 10 => ("TreacleTankModel", "gas", "I", false)
  | 11 => ("TreacleTankModel", "airIs", "I", false)
  | 12 => ("TreacleTankModel", "fillings", "I", false)
  | 13 => ("TreacleTankModel", "burstBy", "I", false)
  | 14 => ("TreacleTankModel", "burstIn", "I", false)
  | 15 => ("TreacleTankModel", "burstLoad", "I", false)
  | 16 => ("TreacleTankModel", "high", "[I", true)
  | 17 => ("TreacleTankModel", "drawn", "[I", true)
  | 18 => ("TreacleTankModel", "built", "[I", true)
  | 19 => ("TreacleTankModel", "strength", "[I", true)
  | 20 => ("TreacleTankModel", "brittle", "[I", true)
  | 21 => ("TreacleTankModel", "holes", "[I", true)
  | 22 => ("TreacleTankModel", "rivets", "[I", true)
  | 23 => ("TreacleTankModel", "coins", "[I", true)
  | 24 => ("TreacleTankModel", "stood", "[I", true)
  | 25 => ("TreacleTankModel", "feetOf", "[I", true)
  | 26 => ("TreacleTankModel", "heatOf", "[I", true)
  | 27 => ("TreacleTankModel", "taped", "I", false)
  | 28 => ("TreacleTankModel", "p", "I", false)
  | 29 => ("TreacleTankModel", "fault", "I", false)
  | 30 => ("TreacleTankModel", "slot", "I", false)
  | 31 => ("TreacleTankModel", "entries", "I", false)
  | 32 => ("TreacleTankModel", "deep", "I", false)
  | 33 => ("TreacleTankModel", "counted", "I", false)
  | 34 => ("TreacleTankModel", "opened", "I", false)
  | 35 => ("TreacleTankModel", "tape", "[B", true)
  | 36 => ("TreacleTankModel", "texts", "[I", true)
  | 37 => ("TreacleTankModel", "sort", "[I", true)
  | 38 => ("TreacleTankModel", "number", "[I", true)
  | 39 => ("TreacleTankModel", "clauses", "[I", true)
  | 40 => ("TreacleTankModel", "tells", "[I", true)
  | 41 => ("TreacleTankModel", "first", "[I", true)
  | 42 => ("TreacleTankModel", "second", "[I", true)
  | 43 => ("TreacleTankModel", "testAt", "[I", true)
  | 44 => ("TreacleTankModel", "endAt", "[I", true)
  | 45 => ("TreacleTankModel", "open", "[I", true)
  | 46 => ("TreacleTankModel", "asked", "[J", true)
  | 47 => ("TreacleTankModel", "stack", "[J", true)
  | 48 => ("TreacleTankModel", "seen", "[I", true)
  | 49 => ("TreacleTankModel", "chances", "[I", true)
  | 50 => ("TreacleTankModel", "looked", "[I", true)
  | 51 => ("TreacleTankModel", "hasWave", "Z", false)
  | 52 => ("TreacleTankModel", "easy", "I", false)
  | 53 => ("TreacleTankModel", "stiff", "I", false)
  | 54 => ("TreacleTankModel", "minutes", "I", false)
  | 55 => ("TreacleTankModel", "groundAt", "[I", true)
  | 56 => ("TreacleTankModel", "there", "[I", true)
  | 57 => ("TreacleTankModel", "stain", "[I", true)
  | 58 => ("TreacleTankModel", "came", "[I", true)
  | 59 => ("TreacleTankModel", "level", "[I", true)
  | 60 => ("TreacleTankModel", "goes", "[I", true)
  | 61 => ("TreacleTankModel", "witnesses", "I", false)
  | 62 => ("TreacleTankModel", "askedIn", "[I", true)
  | 63 => ("TreacleTankModel", "said", "[I", true)
  | 64 => ("TreacleTankModel", "read", "[I", true)
  | 65 => ("TreacleTankModel", "marks", "[I", true)
  | 66 => ("TreacleTankModel", "scalars", "[I", true)
  | 67 => ("TreacleTankModel", "isMarked", "[Z", true)
  | 68 => ("TreacleTankModel", "markAt", "I", false)
  | _ => ("TreacleTankModel", "isBack", "Z", false)
def tyX11 : Nat → FieldType := fun k => match k with
  | 0 => .int
  | 1 => .boolean
  | 2 => .int
  | 3 => .int
  | 4 => .int
  | 5 => .int
  | 6 => .int
  | 7 => .int
  | 8 => .int
  | 9 => .int
  | 10 => .int
  | 11 => .int
  | 12 => .int
  | 13 => .int
  | 14 => .int
  | 15 => .int
  | 16 => .array .int
  | 17 => .array .int
  | 18 => .array .int
  | 19 => .array .int
  | 20 => .array .int
  | 21 => .array .int
  | 22 => .array .int
  | 23 => .array .int
  | 24 => .array .int
  | 25 => .array .int
  | 26 => .array .int
  | 27 => .int
  | 28 => .int
  | 29 => .int
  | 30 => .int
  | 31 => .int
  | 32 => .int
  | 33 => .int
  | 34 => .int
  | 35 => .array .byte
  | 36 => .array .int
  | 37 => .array .int
  | 38 => .array .int
  | 39 => .array .int
  | 40 => .array .int
  | 41 => .array .int
  | 42 => .array .int
  | 43 => .array .int
  | 44 => .array .int
  | 45 => .array .int
  | 46 => .array .long
  | 47 => .array .long
  | 48 => .array .int
  | 49 => .array .int
  | 50 => .array .int
  | 51 => .boolean
  | 52 => .int
  | 53 => .int
  | 54 => .int
  | 55 => .array .int
  | 56 => .array .int
  | 57 => .array .int
  | 58 => .array .int
  | 59 => .array .int
  | 60 => .array .int
  | 61 => .int
  | 62 => .array .int
  | 63 => .array .int
  | 64 => .array .int
  | 65 => .array .int
  | 66 => .array .int
  | 67 => .array .boolean
  | 68 => .int
  | _ => .boolean
abbrev wsX110 : List Cond := u_ws RX11 TX11 70
theorem nmX11 : ∀ a, a < 70 → ∀ b, b < 70 → a ≠ b → (TX11 a).2.1 ≠ (TX11 b).2.1 := by decide +kernel
theorem tyX11_ok : ∀ k, k < 70 → parseFieldDescriptor (TX11 k).2.2.1 = some (tyX11 k) := by decide +kernel
abbrev cX11_init : ByteArray := prog_13_method_1_code
def yX11_init : MethodName := ⟨RX11, "<init>", "()V"⟩
abbrev cX11_in : ByteArray := prog_13_method_3_code
def yX11_in : MethodName := ⟨RX11, "in", "(JJJ)Z"⟩
abbrev cX11_begin : ByteArray := prog_13_method_4_code
def yX11_begin : MethodName := ⟨RX11, "begin", "(IIIII)Z"⟩
abbrev cX11_isRing : ByteArray := prog_13_method_5_code
def yX11_isRing : MethodName := ⟨RX11, "isRing", "(I)Z"⟩
abbrev cX11_lower : ByteArray := prog_13_method_6_code
def yX11_lower : MethodName := ⟨RX11, "lower", "(I)I"⟩
abbrev cX11_depth : ByteArray := prog_13_method_7_code
def yX11_depth : MethodName := ⟨RX11, "depth", "()I"⟩
abbrev cX11_loadBy : ByteArray := prog_13_method_8_code
def yX11_loadBy : MethodName := ⟨RX11, "loadBy", "(IIII)I"⟩
abbrev cX11_loadOf : ByteArray := prog_13_method_9_code
def yX11_loadOf : MethodName := ⟨RX11, "loadOf", "(I)I"⟩
abbrev cX11_steelOf : ByteArray := prog_13_method_10_code
def yX11_steelOf : MethodName := ⟨RX11, "steelOf", "(I)I"⟩
abbrev cX11_plateBy : ByteArray := prog_13_method_11_code
def yX11_plateBy : MethodName := ⟨RX11, "plateBy", "(II)I"⟩
abbrev cX11_bearsOf : ByteArray := prog_13_method_12_code
def yX11_bearsOf : MethodName := ⟨RX11, "bearsOf", "(I)I"⟩
abbrev cX11_stands : ByteArray := prog_13_method_13_code
def yX11_stands : MethodName := ⟨RX11, "stands", "()Z"⟩
abbrev cX11_stood : ByteArray := prog_13_method_14_code
def yX11_stood : MethodName := ⟨RX11, "stood", "()V"⟩
abbrev cX11_ring : ByteArray := prog_13_method_15_code
def yX11_ring : MethodName := ⟨RX11, "ring", "(IIIIIIII)I"⟩
abbrev cX11_pour : ByteArray := prog_13_method_16_code
def yX11_pour : MethodName := ⟨RX11, "pour", "(II)I"⟩
abbrev cX11_draw : ByteArray := prog_13_method_17_code
def yX11_draw : MethodName := ⟨RX11, "draw", "(I)I"⟩
abbrev cX11_air : ByteArray := prog_13_method_18_code
def yX11_air : MethodName := ⟨RX11, "air", "(I)I"⟩
abbrev cX11_hour : ByteArray := prog_13_method_19_code
def yX11_hour : MethodName := ⟨RX11, "hour", "()V"⟩
abbrev cX11_hours : ByteArray := prog_13_method_20_code
def yX11_hours : MethodName := ⟨RX11, "hours", "(I)I"⟩
abbrev cX11_count : ByteArray := prog_13_method_21_code
def yX11_count : MethodName := ⟨RX11, "count", "(I)I"⟩
abbrev cX11_layer : ByteArray := prog_13_method_22_code
def yX11_layer : MethodName := ⟨RX11, "layer", "(II)I"⟩
abbrev cX11_told : ByteArray := prog_13_method_23_code
def yX11_told : MethodName := ⟨RX11, "told", "(II)I"⟩
abbrev cX11_isNearer : ByteArray := prog_13_method_24_code
def yX11_isNearer : MethodName := ⟨RX11, "isNearer", "(II)Z"⟩
abbrev cX11_nearest : ByteArray := prog_13_method_25_code
def yX11_nearest : MethodName := ⟨RX11, "nearest", "()I"⟩
abbrev cX11_feed : ByteArray := prog_13_method_26_code
def yX11_feed : MethodName := ⟨RX11, "feed", "(IIIII)I"⟩
abbrev cX11_put : ByteArray := prog_13_method_27_code
def yX11_put : MethodName := ⟨RX11, "put", "(I)V"⟩
abbrev cX11_end : ByteArray := prog_13_method_28_code
def yX11_end : MethodName := ⟨RX11, "end", "(I)I"⟩
abbrev cX11_wordOf : ByteArray := prog_13_method_29_code
def yX11_wordOf : MethodName := ⟨RX11, "wordOf", "(I)Ljava/lang/String;"⟩
abbrev cX11_fails : ByteArray := prog_13_method_30_code
def yX11_fails : MethodName := ⟨RX11, "fails", "(II)V"⟩
abbrev cX11_sign : ByteArray := prog_13_method_31_code
def yX11_sign : MethodName := ⟨RX11, "sign", "()I"⟩
abbrev cX11_blanks : ByteArray := prog_13_method_32_code
def yX11_blanks : MethodName := ⟨RX11, "blanks", "()V"⟩
abbrev cX11_isDigit : ByteArray := prog_13_method_33_code
def yX11_isDigit : MethodName := ⟨RX11, "isDigit", "()Z"⟩
abbrev cX11_stands_ : ByteArray := prog_13_method_34_code
def yX11_stands_ : MethodName := ⟨RX11, "stands", "(Ljava/lang/String;)Z"⟩
abbrev cX11_takes : ByteArray := prog_13_method_35_code
def yX11_takes : MethodName := ⟨RX11, "takes", "(Ljava/lang/String;)Z"⟩
abbrev cX11_entry : ByteArray := prog_13_method_36_code
def yX11_entry : MethodName := ⟨RX11, "entry", "(II)V"⟩
abbrev cX11_isCounted : ByteArray := prog_13_method_37_code
def yX11_isCounted : MethodName := ⟨RX11, "isCounted", "(I)V"⟩
abbrev cX11_digits : ByteArray := prog_13_method_38_code
def yX11_digits : MethodName := ⟨RX11, "digits", "(I)I"⟩
abbrev cX11_value : ByteArray := prog_13_method_39_code
def yX11_value : MethodName := ⟨RX11, "value", "()V"⟩
abbrev cX11_sum : ByteArray := prog_13_method_40_code
def yX11_sum : MethodName := ⟨RX11, "sum", "()V"⟩
abbrev cX11_compared : ByteArray := prog_13_method_41_code
def yX11_compared : MethodName := ⟨RX11, "compared", "()V"⟩
abbrev cX11_top : ByteArray := prog_13_method_42_code
def yX11_top : MethodName := ⟨RX11, "top", "()I"⟩
abbrev cX11_opens : ByteArray := prog_13_method_43_code
def yX11_opens : MethodName := ⟨RX11, "opens", "(I)V"⟩
abbrev cX11_answers : ByteArray := prog_13_method_44_code
def yX11_answers : MethodName := ⟨RX11, "answers", "(I)V"⟩
abbrev cX11_fact : ByteArray := prog_13_method_45_code
def yX11_fact : MethodName := ⟨RX11, "fact", "()Z"⟩
abbrev cX11_test : ByteArray := prog_13_method_46_code
def yX11_test : MethodName := ⟨RX11, "test", "()V"⟩
abbrev cX11_amount : ByteArray := prog_13_method_47_code
def yX11_amount : MethodName := ⟨RX11, "amount", "(II)I"⟩
abbrev cX11_hasPrior : ByteArray := prog_13_method_48_code
def yX11_hasPrior : MethodName := ⟨RX11, "hasPrior", "(I)Z"⟩
abbrev cX11_storyClause : ByteArray := prog_13_method_49_code
def yX11_storyClause : MethodName := ⟨RX11, "storyClause", "(I)V"⟩
abbrev cX11_ifTest : ByteArray := prog_13_method_50_code
def yX11_ifTest : MethodName := ⟨RX11, "ifTest", "()V"⟩
abbrev cX11_ruleClause : ByteArray := prog_13_method_51_code
def yX11_ruleClause : MethodName := ⟨RX11, "ruleClause", "(I)V"⟩
abbrev cX11_text : ByteArray := prog_13_method_52_code
def yX11_text : MethodName := ⟨RX11, "text", "(I)I"⟩
abbrev cX11_story : ByteArray := prog_13_method_53_code
def yX11_story : MethodName := ⟨RX11, "story", "()I"⟩
abbrev cX11_rule : ByteArray := prog_13_method_54_code
def yX11_rule : MethodName := ⟨RX11, "rule", "()I"⟩
abbrev cX11_truth : ByteArray := prog_13_method_55_code
def yX11_truth : MethodName := ⟨RX11, "truth", "(Z)J"⟩
abbrev cX11_both : ByteArray := prog_13_method_56_code
def yX11_both : MethodName := ⟨RX11, "both", "(IJJ)J"⟩
abbrev cX11_answer : ByteArray := prog_13_method_57_code
def yX11_answer : MethodName := ⟨RX11, "answer", "(III)J"⟩
abbrev cX11_looks : ByteArray := prog_13_method_58_code
def yX11_looks : MethodName := ⟨RX11, "looks", "(I)V"⟩
abbrev cX11_holds : ByteArray := prog_13_method_59_code
def yX11_holds : MethodName := ⟨RX11, "holds", "(I)Z"⟩
abbrev cX11_areStory : ByteArray := prog_13_method_60_code
def yX11_areStory : MethodName := ⟨RX11, "areStory", "(II)Z"⟩
abbrev cX11_isFit : ByteArray := prog_13_method_61_code
def yX11_isFit : MethodName := ⟨RX11, "isFit", "(II)Z"⟩
abbrev cX11_fits : ByteArray := prog_13_method_62_code
def yX11_fits : MethodName := ⟨RX11, "fits", "(II)I"⟩
abbrev cX11_trace : ByteArray := prog_13_method_63_code
def yX11_trace : MethodName := ⟨RX11, "trace", "(II)I"⟩
abbrev cX11_chanceOf : ByteArray := prog_13_method_64_code
def yX11_chanceOf : MethodName := ⟨RX11, "chanceOf", "(III)I"⟩
abbrev cX11_chance : ByteArray := prog_13_method_65_code
def yX11_chance : MethodName := ⟨RX11, "chance", "(III)I"⟩
abbrev cX11_weighs : ByteArray := prog_13_method_66_code
def yX11_weighs : MethodName := ⟨RX11, "weighs", "(II)J"⟩
abbrev cX11_weight : ByteArray := prog_13_method_67_code
def yX11_weight : MethodName := ⟨RX11, "weight", "(II)J"⟩
abbrev cX11_odds : ByteArray := prog_13_method_68_code
def yX11_odds : MethodName := ⟨RX11, "odds", "(II)I"⟩
abbrev cX11_made : ByteArray := prog_13_method_69_code
def yX11_made : MethodName := ⟨RX11, "made", "(IIII)I"⟩
abbrev cX11_span : ByteArray := prog_13_method_70_code
def yX11_span : MethodName := ⟨RX11, "span", "(II)I"⟩
abbrev cX11_trial : ByteArray := prog_13_method_71_code
def yX11_trial : MethodName := ⟨RX11, "trial", "(II)I"⟩
abbrev cX11_fullLoad : ByteArray := prog_13_method_72_code
def yX11_fullLoad : MethodName := ⟨RX11, "fullLoad", "(I)I"⟩
abbrev cX11_needed : ByteArray := prog_13_method_73_code
def yX11_needed : MethodName := ⟨RX11, "needed", "(II)I"⟩
abbrev cX11_moreOf : ByteArray := prog_13_method_74_code
def yX11_moreOf : MethodName := ⟨RX11, "moreOf", "(I)I"⟩
abbrev cX11_more : ByteArray := prog_13_method_75_code
def yX11_more : MethodName := ⟨RX11, "more", "()I"⟩
abbrev cX11_thicker : ByteArray := prog_13_method_76_code
def yX11_thicker : MethodName := ⟨RX11, "thicker", "(I)I"⟩
abbrev cX11_look : ByteArray := prog_13_method_77_code
def yX11_look : MethodName := ⟨RX11, "look", "(II)Z"⟩
abbrev cX11_isAsked : ByteArray := prog_13_method_78_code
def yX11_isAsked : MethodName := ⟨RX11, "isAsked", "(I)Z"⟩
abbrev cX11_owed : ByteArray := prog_13_method_79_code
def yX11_owed : MethodName := ⟨RX11, "owed", "()I"⟩
abbrev cX11_isPlace : ByteArray := prog_13_method_80_code
def yX11_isPlace : MethodName := ⟨RX11, "isPlace", "(II)Z"⟩
abbrev cX11_ground : ByteArray := prog_13_method_81_code
def yX11_ground : MethodName := ⟨RX11, "ground", "(III)I"⟩
abbrev cX11_stains : ByteArray := prog_13_method_82_code
def yX11_stains : MethodName := ⟨RX11, "stains", "()V"⟩
abbrev cX11_wave : ByteArray := prog_13_method_83_code
def yX11_wave : MethodName := ⟨RX11, "wave", "(IIIII)Z"⟩
abbrev cX11_flows : ByteArray := prog_13_method_84_code
def yX11_flows : MethodName := ⟨RX11, "flows", "(III)V"⟩
abbrev cX11_minute : ByteArray := prog_13_method_85_code
def yX11_minute : MethodName := ⟨RX11, "minute", "()V"⟩
abbrev cX11_minutes : ByteArray := prog_13_method_86_code
def yX11_minutes : MethodName := ⟨RX11, "minutes", "(I)I"⟩
abbrev cX11_place : ByteArray := prog_13_method_87_code
def yX11_place : MethodName := ⟨RX11, "place", "(III)I"⟩
abbrev cX11_witness : ByteArray := prog_13_method_88_code
def yX11_witness : MethodName := ⟨RX11, "witness", "(III)I"⟩
abbrev cX11_lean : ByteArray := prog_13_method_89_code
def yX11_lean : MethodName := ⟨RX11, "lean", "(IIIII)I"⟩
abbrev cX11_carry : ByteArray := prog_13_method_90_code
def yX11_carry : MethodName := ⟨RX11, "carry", "([I)V"⟩
abbrev cX11_carries : ByteArray := prog_13_method_91_code
def yX11_carries : MethodName := ⟨RX11, "carries", "(I)V"⟩
abbrev cX11_mark : ByteArray := prog_13_method_92_code
def yX11_mark : MethodName := ⟨RX11, "mark", "(I)I"⟩
abbrev cX11_back : ByteArray := prog_13_method_93_code
def yX11_back : MethodName := ⟨RX11, "back", "(I)I"⟩
def RJ9 : String := "java/lang/Math"
abbrev cJ9_abs_0f7a4 : ByteArray := prog_14_method_59_code
def yJ9_abs_0f7a4 : MethodName := ⟨RJ9, "abs", "(I)I"⟩
abbrev cJ9_max_7cf53 : ByteArray := prog_14_method_65_code
def yJ9_max_7cf53 : MethodName := ⟨RJ9, "max", "(II)I"⟩
abbrev cJ9_min_7cf53 : ByteArray := prog_14_method_69_code
def yJ9_min_7cf53 : MethodName := ⟨RJ9, "min", "(II)I"⟩
def RJ0 : String := "java/lang/String"
abbrev cJ0_length_8abf5 : ByteArray := prog_15_method_54_code
def yJ0_length_8abf5 : MethodName := ⟨RJ0, "length", "()I"⟩
abbrev cJ0_charAt_5068e : ByteArray := prog_15_method_56_code
def yJ0_charAt_5068e : MethodName := ⟨RJ0, "charAt", "(I)C"⟩
abbrev cJ0_coder_7d493 : ByteArray := prog_15_method_152_code
def yJ0_coder_7d493 : MethodName := ⟨RJ0, "coder", "()B"⟩
abbrev cJ0_isLatin1_aae02 : ByteArray := prog_15_method_154_code
def yJ0_isLatin1_aae02 : MethodName := ⟨RJ0, "isLatin1", "()Z"⟩
abbrev cJ0_checkIndex_df160 : ByteArray := prog_15_method_155_code
def yJ0_checkIndex_df160 : MethodName := ⟨RJ0, "checkIndex", "(II)V"⟩
def RJ1 : String := "java/lang/StringLatin1"
abbrev cJ1_charAt_3b067 : ByteArray := prog_16_method_2_code
def yJ1_charAt_3b067 : MethodName := ⟨RJ1, "charAt", "([BI)C"⟩
def RJ2 : String := "java/lang/StringUTF16"
abbrev cJ2_getChar_3b067 : ByteArray := prog_17_method_5_code
def yJ2_getChar_3b067 : MethodName := ⟨RJ2, "getChar", "([BI)C"⟩
abbrev cJ2_length_9d52b : ByteArray := prog_17_method_6_code
def yJ2_length_9d52b : MethodName := ⟨RJ2, "length", "([B)I"⟩
abbrev cJ2_charAt_3b067 : ByteArray := prog_17_method_83_code
def yJ2_charAt_3b067 : MethodName := ⟨RJ2, "charAt", "([BI)C"⟩
abbrev cJ2_checkIndex_2214a : ByteArray := prog_17_method_91_code
def yJ2_checkIndex_2214a : MethodName := ⟨RJ2, "checkIndex", "(I[B)V"⟩
def RJ10 : String := "java/lang/System"
def RJ3 : String := "jdk/internal/util/Preconditions"
abbrev cJ3_checkIndex_8e157 : ByteArray := prog_19_method_11_code
def yJ3_checkIndex_8e157 : MethodName := ⟨RJ3, "checkIndex", "(IILjava/util/function/BiFunction;)I"⟩
def RL : String := "TreacleTankLaw"
abbrev cL_law : ByteArray := code
def yL_law : MethodName := ⟨RL, "law", "([I)Z"⟩
abbrev vwCl : List vw_C := [(RX0, TX0, 4), (RX1, TX1, 2), (RX2, TX2, 11), (RX3, TX3, 10), (RX4, TX4, 5), (RX5, TX5, 9), (RX6, TX6, 19), (RX7, TX7, 6), (RX8, TX8, 1), (RX9, TX9, 4), (RX10, TX10, 10), (RX11, TX11, 70)]
