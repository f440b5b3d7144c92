section
-- ===== PART A: goes FIRST, ahead of the names: the tables' words, and 'selects' of the private methods out of them =====
/-- a private method of a class that the tables say can be made, by its rows of tables_1 -/
def lw_okq (q : MethodName × Nat) : Prop := (q.1.cls ≠ "java/lang/invoke/MethodHandle" ∧ q.1.cls ≠ "java/lang/invoke/VarHandle") ∧ Cond.instantiable q.1.cls q.2 ∈ tables_1 ∧ Cond.privateMethod q.1 ∈ tables_1 ∧ Cond.instanceMethod q.1 ∈ tables_1
theorem lw_p0 : lw_okq (⟨"BoundTables$Table", "startOver", "()V"⟩, 15) := ⟨⟨by decide +kernel, by decide +kernel⟩, List.mem_of_getElem? (i := 120) (by decide +kernel), List.mem_of_getElem? (i := 157) (by decide +kernel), List.mem_of_getElem? (i := 158) (by decide +kernel)⟩
theorem lw_p1 : lw_okq (⟨"BoundTables$Overs", "startOver", "()V"⟩, 7) := ⟨⟨by decide +kernel, by decide +kernel⟩, List.mem_of_getElem? (i := 126) (by decide +kernel), List.mem_of_getElem? (i := 161) (by decide +kernel), List.mem_of_getElem? (i := 162) (by decide +kernel)⟩
theorem lw_p2 : lw_okq (⟨"BoundTables$Table", "addClass", "(J)I"⟩, 15) := ⟨⟨by decide +kernel, by decide +kernel⟩, List.mem_of_getElem? (i := 120) (by decide +kernel), List.mem_of_getElem? (i := 169) (by decide +kernel), List.mem_of_getElem? (i := 170) (by decide +kernel)⟩
theorem lw_p3 : lw_okq (⟨"BoundTables$Overs", "addOwn", "(III)V"⟩, 7) := ⟨⟨by decide +kernel, by decide +kernel⟩, List.mem_of_getElem? (i := 126) (by decide +kernel), List.mem_of_getElem? (i := 173) (by decide +kernel), List.mem_of_getElem? (i := 174) (by decide +kernel)⟩
theorem lw_p4 : lw_okq (⟨"BoundTables$Overs", "makeRoom", "(I)V"⟩, 7) := ⟨⟨by decide +kernel, by decide +kernel⟩, List.mem_of_getElem? (i := 126) (by decide +kernel), List.mem_of_getElem? (i := 177) (by decide +kernel), List.mem_of_getElem? (i := 178) (by decide +kernel)⟩
theorem lw_p5 : lw_okq (⟨"BoundTables$Overs", "write", "(I)V"⟩, 7) := ⟨⟨by decide +kernel, by decide +kernel⟩, List.mem_of_getElem? (i := 126) (by decide +kernel), List.mem_of_getElem? (i := 205) (by decide +kernel), List.mem_of_getElem? (i := 206) (by decide +kernel)⟩
theorem lw_p6 : lw_okq (⟨"BoundTables$Asker", "startOver", "(LBoundTables$Table;I)V"⟩, 15) := ⟨⟨by decide +kernel, by decide +kernel⟩, List.mem_of_getElem? (i := 327) (by decide +kernel), List.mem_of_getElem? (i := 420) (by decide +kernel), List.mem_of_getElem? (i := 421) (by decide +kernel)⟩
theorem lw_p7 : lw_okq (⟨"BoundTables$Types", "startOver", "(LBoundTables$Table;)V"⟩, 9) := ⟨⟨by decide +kernel, by decide +kernel⟩, List.mem_of_getElem? (i := 333) (by decide +kernel), List.mem_of_getElem? (i := 424) (by decide +kernel), List.mem_of_getElem? (i := 425) (by decide +kernel)⟩
theorem lw_p8 : lw_okq (⟨"BoundTables$Types", "leaf", "(I)I"⟩, 9) := ⟨⟨by decide +kernel, by decide +kernel⟩, List.mem_of_getElem? (i := 333) (by decide +kernel), List.mem_of_getElem? (i := 429) (by decide +kernel), List.mem_of_getElem? (i := 430) (by decide +kernel)⟩
theorem lw_p9 : lw_okq (⟨"BoundTables$Types", "make", "(II)I"⟩, 9) := ⟨⟨by decide +kernel, by decide +kernel⟩, List.mem_of_getElem? (i := 333) (by decide +kernel), List.mem_of_getElem? (i := 433) (by decide +kernel), List.mem_of_getElem? (i := 434) (by decide +kernel)⟩
theorem lw_p10 : lw_okq (⟨"BoundTables$Table", "arity", "(I)I"⟩, 15) := ⟨⟨by decide +kernel, by decide +kernel⟩, List.mem_of_getElem? (i := 120) (by decide +kernel), List.mem_of_getElem? (i := 437) (by decide +kernel), List.mem_of_getElem? (i := 438) (by decide +kernel)⟩
theorem lw_p11 : lw_okq (⟨"BoundTables$Types", "hasParts", "(III)Z"⟩, 9) := ⟨⟨by decide +kernel, by decide +kernel⟩, List.mem_of_getElem? (i := 333) (by decide +kernel), List.mem_of_getElem? (i := 444) (by decide +kernel), List.mem_of_getElem? (i := 445) (by decide +kernel)⟩
theorem lw_p12 : lw_okq (⟨"BoundTables$Asker", "tellOwnBounds", "(I)V"⟩, 15) := ⟨⟨by decide +kernel, by decide +kernel⟩, List.mem_of_getElem? (i := 327) (by decide +kernel), List.mem_of_getElem? (i := 452) (by decide +kernel), List.mem_of_getElem? (i := 453) (by decide +kernel)⟩
theorem lw_p13 : lw_okq (⟨"BoundTables$Asker", "nodeOf", "([III)I"⟩, 15) := ⟨⟨by decide +kernel, by decide +kernel⟩, List.mem_of_getElem? (i := 327) (by decide +kernel), List.mem_of_getElem? (i := 456) (by decide +kernel), List.mem_of_getElem? (i := 457) (by decide +kernel)⟩
theorem lw_p14 : lw_okq (⟨"BoundTables$Types", "put", "([III[III)I"⟩, 9) := ⟨⟨by decide +kernel, by decide +kernel⟩, List.mem_of_getElem? (i := 333) (by decide +kernel), List.mem_of_getElem? (i := 460) (by decide +kernel), List.mem_of_getElem? (i := 461) (by decide +kernel)⟩
theorem lw_p15 : lw_okq (⟨"BoundTables$Reader", "readTable", "(LBoundTables$Table;)Z"⟩, 11) := ⟨⟨by decide +kernel, by decide +kernel⟩, List.mem_of_getElem? (i := 280) (by decide +kernel), List.mem_of_getElem? (i := 496) (by decide +kernel), List.mem_of_getElem? (i := 497) (by decide +kernel)⟩
def lw_privs_1 : List (MethodName × Nat) := [(⟨"BoundTables$Table", "startOver", "()V"⟩, 15), (⟨"BoundTables$Overs", "startOver", "()V"⟩, 7), (⟨"BoundTables$Table", "addClass", "(J)I"⟩, 15), (⟨"BoundTables$Overs", "addOwn", "(III)V"⟩, 7), (⟨"BoundTables$Overs", "makeRoom", "(I)V"⟩, 7), (⟨"BoundTables$Overs", "write", "(I)V"⟩, 7), (⟨"BoundTables$Asker", "startOver", "(LBoundTables$Table;I)V"⟩, 15), (⟨"BoundTables$Types", "startOver", "(LBoundTables$Table;)V"⟩, 9), (⟨"BoundTables$Types", "leaf", "(I)I"⟩, 9), (⟨"BoundTables$Types", "make", "(II)I"⟩, 9), (⟨"BoundTables$Table", "arity", "(I)I"⟩, 15), (⟨"BoundTables$Types", "hasParts", "(III)Z"⟩, 9), (⟨"BoundTables$Asker", "tellOwnBounds", "(I)V"⟩, 15), (⟨"BoundTables$Asker", "nodeOf", "([III)I"⟩, 15), (⟨"BoundTables$Types", "put", "([III[III)I"⟩, 9), (⟨"BoundTables$Reader", "readTable", "(LBoundTables$Table;)Z"⟩, 11)]
theorem lw_r1 : ∀ q ∈ lw_privs_1, lw_okq q := List.forall_mem_cons.mpr ⟨lw_p0, List.forall_mem_cons.mpr ⟨lw_p1, List.forall_mem_cons.mpr ⟨lw_p2, List.forall_mem_cons.mpr ⟨lw_p3, List.forall_mem_cons.mpr ⟨lw_p4, List.forall_mem_cons.mpr ⟨lw_p5, List.forall_mem_cons.mpr ⟨lw_p6, List.forall_mem_cons.mpr ⟨lw_p7, List.forall_mem_cons.mpr ⟨lw_p8, List.forall_mem_cons.mpr ⟨lw_p9, List.forall_mem_cons.mpr ⟨lw_p10, List.forall_mem_cons.mpr ⟨lw_p11, List.forall_mem_cons.mpr ⟨lw_p12, List.forall_mem_cons.mpr ⟨lw_p13, List.forall_mem_cons.mpr ⟨lw_p14, List.forall_mem_cons.mpr ⟨lw_p15, fun _ h => absurd h List.not_mem_nil⟩⟩⟩⟩⟩⟩⟩⟩⟩⟩⟩⟩⟩⟩⟩⟩
theorem lw_p16 : lw_okq (⟨"BoundTables$Reader", "start", "(LBoundTables$Table;[I)V"⟩, 11) := ⟨⟨by decide +kernel, by decide +kernel⟩, List.mem_of_getElem? (i := 280) (by decide +kernel), List.mem_of_getElem? (i := 501) (by decide +kernel), List.mem_of_getElem? (i := 502) (by decide +kernel)⟩
theorem lw_p17 : lw_okq (⟨"BoundTables$Tape", "cut", "()V"⟩, 9) := ⟨⟨by decide +kernel, by decide +kernel⟩, List.mem_of_getElem? (i := 34) (by decide +kernel), List.mem_of_getElem? (i := 505) (by decide +kernel), List.mem_of_getElem? (i := 506) (by decide +kernel)⟩
theorem lw_p18 : lw_okq (⟨"BoundTables$Tape", "nameSize", "(I)I"⟩, 9) := ⟨⟨by decide +kernel, by decide +kernel⟩, List.mem_of_getElem? (i := 34) (by decide +kernel), List.mem_of_getElem? (i := 509) (by decide +kernel), List.mem_of_getElem? (i := 510) (by decide +kernel)⟩
theorem lw_p19 : lw_okq (⟨"BoundTables$Tape", "nameOf", "(II)J"⟩, 9) := ⟨⟨by decide +kernel, by decide +kernel⟩, List.mem_of_getElem? (i := 34) (by decide +kernel), List.mem_of_getElem? (i := 521) (by decide +kernel), List.mem_of_getElem? (i := 522) (by decide +kernel)⟩
theorem lw_p20 : lw_okq (⟨"BoundTables$Tape", "step", "()V"⟩, 9) := ⟨⟨by decide +kernel, by decide +kernel⟩, List.mem_of_getElem? (i := 34) (by decide +kernel), List.mem_of_getElem? (i := 614) (by decide +kernel), List.mem_of_getElem? (i := 615) (by decide +kernel)⟩
theorem lw_p21 : lw_okq (⟨"BoundTables$Reader", "declaration", "()Z"⟩, 11) := ⟨⟨by decide +kernel, by decide +kernel⟩, List.mem_of_getElem? (i := 280) (by decide +kernel), List.mem_of_getElem? (i := 618) (by decide +kernel), List.mem_of_getElem? (i := 619) (by decide +kernel)⟩
theorem lw_p22 : lw_okq (⟨"BoundTables$Reader", "fail", "(I)Z"⟩, 11) := ⟨⟨by decide +kernel, by decide +kernel⟩, List.mem_of_getElem? (i := 280) (by decide +kernel), List.mem_of_getElem? (i := 622) (by decide +kernel), List.mem_of_getElem? (i := 623) (by decide +kernel)⟩
theorem lw_p23 : lw_okq (⟨"BoundTables$Table", "findClass", "(J)I"⟩, 15) := ⟨⟨by decide +kernel, by decide +kernel⟩, List.mem_of_getElem? (i := 120) (by decide +kernel), List.mem_of_getElem? (i := 626) (by decide +kernel), List.mem_of_getElem? (i := 627) (by decide +kernel)⟩
theorem lw_p24 : lw_okq (⟨"BoundTables$Reader", "parameterNames", "()Z"⟩, 11) := ⟨⟨by decide +kernel, by decide +kernel⟩, List.mem_of_getElem? (i := 280) (by decide +kernel), List.mem_of_getElem? (i := 632) (by decide +kernel), List.mem_of_getElem? (i := 633) (by decide +kernel)⟩
theorem lw_p25 : lw_okq (⟨"BoundTables$Table", "findParameter", "(IJ)I"⟩, 15) := ⟨⟨by decide +kernel, by decide +kernel⟩, List.mem_of_getElem? (i := 120) (by decide +kernel), List.mem_of_getElem? (i := 636) (by decide +kernel), List.mem_of_getElem? (i := 637) (by decide +kernel)⟩
theorem lw_p26 : lw_okq (⟨"BoundTables$Table", "addParameter", "(IJ)V"⟩, 15) := ⟨⟨by decide +kernel, by decide +kernel⟩, List.mem_of_getElem? (i := 120) (by decide +kernel), List.mem_of_getElem? (i := 643) (by decide +kernel), List.mem_of_getElem? (i := 644) (by decide +kernel)⟩
theorem lw_p27 : lw_okq (⟨"BoundTables$Reader", "bounds", "()Z"⟩, 11) := ⟨⟨by decide +kernel, by decide +kernel⟩, List.mem_of_getElem? (i := 280) (by decide +kernel), List.mem_of_getElem? (i := 647) (by decide +kernel), List.mem_of_getElem? (i := 648) (by decide +kernel)⟩
theorem lw_p28 : lw_okq (⟨"BoundTables$Reader", "boundName", "()I"⟩, 11) := ⟨⟨by decide +kernel, by decide +kernel⟩, List.mem_of_getElem? (i := 280) (by decide +kernel), List.mem_of_getElem? (i := 651) (by decide +kernel), List.mem_of_getElem? (i := 652) (by decide +kernel)⟩
theorem lw_p29 : lw_okq (⟨"BoundTables$Reader", "type", "(IIZ)Z"⟩, 11) := ⟨⟨by decide +kernel, by decide +kernel⟩, List.mem_of_getElem? (i := 280) (by decide +kernel), List.mem_of_getElem? (i := 656) (by decide +kernel), List.mem_of_getElem? (i := 657) (by decide +kernel)⟩
theorem lw_p30 : lw_okq (⟨"BoundTables$Table", "headOf", "(IJ)I"⟩, 15) := ⟨⟨by decide +kernel, by decide +kernel⟩, List.mem_of_getElem? (i := 120) (by decide +kernel), List.mem_of_getElem? (i := 660) (by decide +kernel), List.mem_of_getElem? (i := 661) (by decide +kernel)⟩
theorem lw_p31 : lw_okq (⟨"BoundTables$Reader", "tell", "(I)V"⟩, 11) := ⟨⟨by decide +kernel, by decide +kernel⟩, List.mem_of_getElem? (i := 280) (by decide +kernel), List.mem_of_getElem? (i := 667) (by decide +kernel), List.mem_of_getElem? (i := 668) (by decide +kernel)⟩
def lw_privs_2 : List (MethodName × Nat) := [(⟨"BoundTables$Reader", "start", "(LBoundTables$Table;[I)V"⟩, 11), (⟨"BoundTables$Tape", "cut", "()V"⟩, 9), (⟨"BoundTables$Tape", "nameSize", "(I)I"⟩, 9), (⟨"BoundTables$Tape", "nameOf", "(II)J"⟩, 9), (⟨"BoundTables$Tape", "step", "()V"⟩, 9), (⟨"BoundTables$Reader", "declaration", "()Z"⟩, 11), (⟨"BoundTables$Reader", "fail", "(I)Z"⟩, 11), (⟨"BoundTables$Table", "findClass", "(J)I"⟩, 15), (⟨"BoundTables$Reader", "parameterNames", "()Z"⟩, 11), (⟨"BoundTables$Table", "findParameter", "(IJ)I"⟩, 15), (⟨"BoundTables$Table", "addParameter", "(IJ)V"⟩, 15), (⟨"BoundTables$Reader", "bounds", "()Z"⟩, 11), (⟨"BoundTables$Reader", "boundName", "()I"⟩, 11), (⟨"BoundTables$Reader", "type", "(IIZ)Z"⟩, 11), (⟨"BoundTables$Table", "headOf", "(IJ)I"⟩, 15), (⟨"BoundTables$Reader", "tell", "(I)V"⟩, 11)]
theorem lw_r2 : ∀ q ∈ lw_privs_2, lw_okq q := List.forall_mem_cons.mpr ⟨lw_p16, List.forall_mem_cons.mpr ⟨lw_p17, List.forall_mem_cons.mpr ⟨lw_p18, List.forall_mem_cons.mpr ⟨lw_p19, List.forall_mem_cons.mpr ⟨lw_p20, List.forall_mem_cons.mpr ⟨lw_p21, List.forall_mem_cons.mpr ⟨lw_p22, List.forall_mem_cons.mpr ⟨lw_p23, List.forall_mem_cons.mpr ⟨lw_p24, List.forall_mem_cons.mpr ⟨lw_p25, List.forall_mem_cons.mpr ⟨lw_p26, List.forall_mem_cons.mpr ⟨lw_p27, List.forall_mem_cons.mpr ⟨lw_p28, List.forall_mem_cons.mpr ⟨lw_p29, List.forall_mem_cons.mpr ⟨lw_p30, List.forall_mem_cons.mpr ⟨lw_p31, fun _ h => absurd h List.not_mem_nil⟩⟩⟩⟩⟩⟩⟩⟩⟩⟩⟩⟩⟩⟩⟩⟩
theorem lw_p32 : lw_okq (⟨"BoundTables$Tape", "opensArgs", "()Z"⟩, 9) := ⟨⟨by decide +kernel, by decide +kernel⟩, List.mem_of_getElem? (i := 34) (by decide +kernel), List.mem_of_getElem? (i := 672) (by decide +kernel), List.mem_of_getElem? (i := 673) (by decide +kernel)⟩
theorem lw_p33 : lw_okq (⟨"BoundTables$Reader", "args", "(IZ)I"⟩, 11) := ⟨⟨by decide +kernel, by decide +kernel⟩, List.mem_of_getElem? (i := 280) (by decide +kernel), List.mem_of_getElem? (i := 676) (by decide +kernel), List.mem_of_getElem? (i := 677) (by decide +kernel)⟩
theorem lw_p34 : lw_okq (⟨"BoundTables$Reader", "wild", "(IZ)Z"⟩, 11) := ⟨⟨by decide +kernel, by decide +kernel⟩, List.mem_of_getElem? (i := 280) (by decide +kernel), List.mem_of_getElem? (i := 680) (by decide +kernel), List.mem_of_getElem? (i := 681) (by decide +kernel)⟩
theorem lw_p35 : lw_okq (⟨"BoundTables$Reader", "behindType", "(Z)Z"⟩, 11) := ⟨⟨by decide +kernel, by decide +kernel⟩, List.mem_of_getElem? (i := 280) (by decide +kernel), List.mem_of_getElem? (i := 684) (by decide +kernel), List.mem_of_getElem? (i := 685) (by decide +kernel)⟩
theorem lw_p36 : lw_okq (⟨"BoundTables$Table", "addBound", "(III)V"⟩, 15) := ⟨⟨by decide +kernel, by decide +kernel⟩, List.mem_of_getElem? (i := 120) (by decide +kernel), List.mem_of_getElem? (i := 692) (by decide +kernel), List.mem_of_getElem? (i := 693) (by decide +kernel)⟩
theorem lw_p37 : lw_okq (⟨"BoundTables$Reader", "supers", "()Z"⟩, 11) := ⟨⟨by decide +kernel, by decide +kernel⟩, List.mem_of_getElem? (i := 280) (by decide +kernel), List.mem_of_getElem? (i := 698) (by decide +kernel), List.mem_of_getElem? (i := 699) (by decide +kernel)⟩
theorem lw_p38 : lw_okq (⟨"BoundTables$Table", "addSuper", "(II)V"⟩, 15) := ⟨⟨by decide +kernel, by decide +kernel⟩, List.mem_of_getElem? (i := 120) (by decide +kernel), List.mem_of_getElem? (i := 702) (by decide +kernel), List.mem_of_getElem? (i := 703) (by decide +kernel)⟩
theorem lw_p39 : lw_okq (⟨"BoundTables$Table", "closeClass", "(I)Z"⟩, 15) := ⟨⟨by decide +kernel, by decide +kernel⟩, List.mem_of_getElem? (i := 120) (by decide +kernel), List.mem_of_getElem? (i := 706) (by decide +kernel), List.mem_of_getElem? (i := 707) (by decide +kernel)⟩
theorem lw_p40 : lw_okq (⟨"BoundTables$Overs", "startArgs", "()V"⟩, 7) := ⟨⟨by decide +kernel, by decide +kernel⟩, List.mem_of_getElem? (i := 126) (by decide +kernel), List.mem_of_getElem? (i := 711) (by decide +kernel), List.mem_of_getElem? (i := 712) (by decide +kernel)⟩
theorem lw_p41 : lw_okq (⟨"BoundTables$Table", "endOfPart", "(I)I"⟩, 15) := ⟨⟨by decide +kernel, by decide +kernel⟩, List.mem_of_getElem? (i := 120) (by decide +kernel), List.mem_of_getElem? (i := 715) (by decide +kernel), List.mem_of_getElem? (i := 716) (by decide +kernel)⟩
theorem lw_p42 : lw_okq (⟨"BoundTables$Overs", "addArg", "(II)V"⟩, 7) := ⟨⟨by decide +kernel, by decide +kernel⟩, List.mem_of_getElem? (i := 126) (by decide +kernel), List.mem_of_getElem? (i := 719) (by decide +kernel), List.mem_of_getElem? (i := 720) (by decide +kernel)⟩
theorem lw_p43 : lw_okq (⟨"BoundTables$Table", "inheritAll", "(II)Z"⟩, 15) := ⟨⟨by decide +kernel, by decide +kernel⟩, List.mem_of_getElem? (i := 120) (by decide +kernel), List.mem_of_getElem? (i := 723) (by decide +kernel), List.mem_of_getElem? (i := 724) (by decide +kernel)⟩
theorem lw_p44 : lw_okq (⟨"BoundTables$Table", "overLength", "(II)I"⟩, 15) := ⟨⟨by decide +kernel, by decide +kernel⟩, List.mem_of_getElem? (i := 120) (by decide +kernel), List.mem_of_getElem? (i := 727) (by decide +kernel), List.mem_of_getElem? (i := 728) (by decide +kernel)⟩
theorem lw_p45 : lw_okq (⟨"BoundTables$Overs", "inherit", "(III[I)Z"⟩, 7) := ⟨⟨by decide +kernel, by decide +kernel⟩, List.mem_of_getElem? (i := 126) (by decide +kernel), List.mem_of_getElem? (i := 731) (by decide +kernel), List.mem_of_getElem? (i := 732) (by decide +kernel)⟩
theorem lw_p46 : lw_okq (⟨"BoundTables$Overs", "sizeWithArgs", "(II)I"⟩, 7) := ⟨⟨by decide +kernel, by decide +kernel⟩, List.mem_of_getElem? (i := 126) (by decide +kernel), List.mem_of_getElem? (i := 735) (by decide +kernel), List.mem_of_getElem? (i := 736) (by decide +kernel)⟩
theorem lw_p47 : lw_okq (⟨"BoundTables$Overs", "writeArg", "(I[I)V"⟩, 7) := ⟨⟨by decide +kernel, by decide +kernel⟩, List.mem_of_getElem? (i := 126) (by decide +kernel), List.mem_of_getElem? (i := 741) (by decide +kernel), List.mem_of_getElem? (i := 742) (by decide +kernel)⟩
def lw_privs_3 : List (MethodName × Nat) := [(⟨"BoundTables$Tape", "opensArgs", "()Z"⟩, 9), (⟨"BoundTables$Reader", "args", "(IZ)I"⟩, 11), (⟨"BoundTables$Reader", "wild", "(IZ)Z"⟩, 11), (⟨"BoundTables$Reader", "behindType", "(Z)Z"⟩, 11), (⟨"BoundTables$Table", "addBound", "(III)V"⟩, 15), (⟨"BoundTables$Reader", "supers", "()Z"⟩, 11), (⟨"BoundTables$Table", "addSuper", "(II)V"⟩, 15), (⟨"BoundTables$Table", "closeClass", "(I)Z"⟩, 15), (⟨"BoundTables$Overs", "startArgs", "()V"⟩, 7), (⟨"BoundTables$Table", "endOfPart", "(I)I"⟩, 15), (⟨"BoundTables$Overs", "addArg", "(II)V"⟩, 7), (⟨"BoundTables$Table", "inheritAll", "(II)Z"⟩, 15), (⟨"BoundTables$Table", "overLength", "(II)I"⟩, 15), (⟨"BoundTables$Overs", "inherit", "(III[I)Z"⟩, 7), (⟨"BoundTables$Overs", "sizeWithArgs", "(II)I"⟩, 7), (⟨"BoundTables$Overs", "writeArg", "(I[I)V"⟩, 7)]
theorem lw_r3 : ∀ q ∈ lw_privs_3, lw_okq q := List.forall_mem_cons.mpr ⟨lw_p32, List.forall_mem_cons.mpr ⟨lw_p33, List.forall_mem_cons.mpr ⟨lw_p34, List.forall_mem_cons.mpr ⟨lw_p35, List.forall_mem_cons.mpr ⟨lw_p36, List.forall_mem_cons.mpr ⟨lw_p37, List.forall_mem_cons.mpr ⟨lw_p38, List.forall_mem_cons.mpr ⟨lw_p39, List.forall_mem_cons.mpr ⟨lw_p40, List.forall_mem_cons.mpr ⟨lw_p41, List.forall_mem_cons.mpr ⟨lw_p42, List.forall_mem_cons.mpr ⟨lw_p43, List.forall_mem_cons.mpr ⟨lw_p44, List.forall_mem_cons.mpr ⟨lw_p45, List.forall_mem_cons.mpr ⟨lw_p46, List.forall_mem_cons.mpr ⟨lw_p47, fun _ h => absurd h List.not_mem_nil⟩⟩⟩⟩⟩⟩⟩⟩⟩⟩⟩⟩⟩⟩⟩⟩
theorem lw_p48 : lw_okq (⟨"BoundTables$Overs", "isSame", "(IIII)Z"⟩, 7) := ⟨⟨by decide +kernel, by decide +kernel⟩, List.mem_of_getElem? (i := 126) (by decide +kernel), List.mem_of_getElem? (i := 745) (by decide +kernel), List.mem_of_getElem? (i := 746) (by decide +kernel)⟩
theorem lw_p49 : lw_okq (⟨"BoundTables$Overs", "addAny", "(I)V"⟩, 7) := ⟨⟨by decide +kernel, by decide +kernel⟩, List.mem_of_getElem? (i := 126) (by decide +kernel), List.mem_of_getElem? (i := 749) (by decide +kernel), List.mem_of_getElem? (i := 750) (by decide +kernel)⟩
theorem lw_p50 : lw_okq (⟨"BoundTables$Ways", "measure", "(LBoundTables$Table;)V"⟩, 4) := ⟨⟨by decide +kernel, by decide +kernel⟩, List.mem_of_getElem? (i := 74) (by decide +kernel), List.mem_of_getElem? (i := 753) (by decide +kernel), List.mem_of_getElem? (i := 754) (by decide +kernel)⟩
theorem lw_p51 : lw_okq (⟨"BoundTables$Ways", "addWays", "([IIII)V"⟩, 4) := ⟨⟨by decide +kernel, by decide +kernel⟩, List.mem_of_getElem? (i := 74) (by decide +kernel), List.mem_of_getElem? (i := 764) (by decide +kernel), List.mem_of_getElem? (i := 765) (by decide +kernel)⟩
theorem lw_p52 : lw_okq (⟨"BoundTables$Ways", "closeReach", "(I)V"⟩, 4) := ⟨⟨by decide +kernel, by decide +kernel⟩, List.mem_of_getElem? (i := 74) (by decide +kernel), List.mem_of_getElem? (i := 771) (by decide +kernel), List.mem_of_getElem? (i := 772) (by decide +kernel)⟩
theorem lw_p53 : lw_okq (⟨"BoundTables$Ways", "joinReach", "(III)V"⟩, 4) := ⟨⟨by decide +kernel, by decide +kernel⟩, List.mem_of_getElem? (i := 74) (by decide +kernel), List.mem_of_getElem? (i := 776) (by decide +kernel), List.mem_of_getElem? (i := 777) (by decide +kernel)⟩
theorem lw_p54 : lw_okq (⟨"BoundTables$Ways", "markRounds", "(I)V"⟩, 4) := ⟨⟨by decide +kernel, by decide +kernel⟩, List.mem_of_getElem? (i := 74) (by decide +kernel), List.mem_of_getElem? (i := 780) (by decide +kernel), List.mem_of_getElem? (i := 781) (by decide +kernel)⟩
theorem lw_p55 : lw_okq (⟨"BoundTables$Ways", "leads", "(II)Z"⟩, 4) := ⟨⟨by decide +kernel, by decide +kernel⟩, List.mem_of_getElem? (i := 74) (by decide +kernel), List.mem_of_getElem? (i := 784) (by decide +kernel), List.mem_of_getElem? (i := 785) (by decide +kernel)⟩
theorem lw_p56 : lw_okq (⟨"BoundTables$Ways", "markRound", "(II)V"⟩, 4) := ⟨⟨by decide +kernel, by decide +kernel⟩, List.mem_of_getElem? (i := 74) (by decide +kernel), List.mem_of_getElem? (i := 788) (by decide +kernel), List.mem_of_getElem? (i := 789) (by decide +kernel)⟩
theorem lw_p57 : lw_okq (⟨"BoundTables$Reader", "readPlace", "(LBoundTables$Table;)Z"⟩, 11) := ⟨⟨by decide +kernel, by decide +kernel⟩, List.mem_of_getElem? (i := 280) (by decide +kernel), List.mem_of_getElem? (i := 801) (by decide +kernel), List.mem_of_getElem? (i := 802) (by decide +kernel)⟩
theorem lw_p58 : lw_okq (⟨"BoundTables$Reader", "opening", "()Z"⟩, 11) := ⟨⟨by decide +kernel, by decide +kernel⟩, List.mem_of_getElem? (i := 280) (by decide +kernel), List.mem_of_getElem? (i := 805) (by decide +kernel), List.mem_of_getElem? (i := 806) (by decide +kernel)⟩
theorem lw_p59 : lw_okq (⟨"BoundTables$Asker", "nodeAbove", "(II)I"⟩, 15) := ⟨⟨by decide +kernel, by decide +kernel⟩, List.mem_of_getElem? (i := 327) (by decide +kernel), List.mem_of_getElem? (i := 810) (by decide +kernel), List.mem_of_getElem? (i := 811) (by decide +kernel)⟩
theorem lw_p60 : lw_okq (⟨"BoundTables$Types", "head", "(I)I"⟩, 9) := ⟨⟨by decide +kernel, by decide +kernel⟩, List.mem_of_getElem? (i := 333) (by decide +kernel), List.mem_of_getElem? (i := 814) (by decide +kernel), List.mem_of_getElem? (i := 815) (by decide +kernel)⟩
theorem lw_p61 : lw_okq (⟨"BoundTables$Asker", "captureArgs", "(II)Z"⟩, 15) := ⟨⟨by decide +kernel, by decide +kernel⟩, List.mem_of_getElem? (i := 327) (by decide +kernel), List.mem_of_getElem? (i := 820) (by decide +kernel), List.mem_of_getElem? (i := 821) (by decide +kernel)⟩
theorem lw_p62 : lw_okq (⟨"BoundTables$Types", "partsOf", "(I)I"⟩, 9) := ⟨⟨by decide +kernel, by decide +kernel⟩, List.mem_of_getElem? (i := 333) (by decide +kernel), List.mem_of_getElem? (i := 824) (by decide +kernel), List.mem_of_getElem? (i := 825) (by decide +kernel)⟩
theorem lw_p63 : lw_okq (⟨"BoundTables$Types", "part", "(II)I"⟩, 9) := ⟨⟨by decide +kernel, by decide +kernel⟩, List.mem_of_getElem? (i := 333) (by decide +kernel), List.mem_of_getElem? (i := 829) (by decide +kernel), List.mem_of_getElem? (i := 830) (by decide +kernel)⟩
def lw_privs_4 : List (MethodName × Nat) := [(⟨"BoundTables$Overs", "isSame", "(IIII)Z"⟩, 7), (⟨"BoundTables$Overs", "addAny", "(I)V"⟩, 7), (⟨"BoundTables$Ways", "measure", "(LBoundTables$Table;)V"⟩, 4), (⟨"BoundTables$Ways", "addWays", "([IIII)V"⟩, 4), (⟨"BoundTables$Ways", "closeReach", "(I)V"⟩, 4), (⟨"BoundTables$Ways", "joinReach", "(III)V"⟩, 4), (⟨"BoundTables$Ways", "markRounds", "(I)V"⟩, 4), (⟨"BoundTables$Ways", "leads", "(II)Z"⟩, 4), (⟨"BoundTables$Ways", "markRound", "(II)V"⟩, 4), (⟨"BoundTables$Reader", "readPlace", "(LBoundTables$Table;)Z"⟩, 11), (⟨"BoundTables$Reader", "opening", "()Z"⟩, 11), (⟨"BoundTables$Asker", "nodeAbove", "(II)I"⟩, 15), (⟨"BoundTables$Types", "head", "(I)I"⟩, 9), (⟨"BoundTables$Asker", "captureArgs", "(II)Z"⟩, 15), (⟨"BoundTables$Types", "partsOf", "(I)I"⟩, 9), (⟨"BoundTables$Types", "part", "(II)I"⟩, 9)]
theorem lw_r4 : ∀ q ∈ lw_privs_4, lw_okq q := List.forall_mem_cons.mpr ⟨lw_p48, List.forall_mem_cons.mpr ⟨lw_p49, List.forall_mem_cons.mpr ⟨lw_p50, List.forall_mem_cons.mpr ⟨lw_p51, List.forall_mem_cons.mpr ⟨lw_p52, List.forall_mem_cons.mpr ⟨lw_p53, List.forall_mem_cons.mpr ⟨lw_p54, List.forall_mem_cons.mpr ⟨lw_p55, List.forall_mem_cons.mpr ⟨lw_p56, List.forall_mem_cons.mpr ⟨lw_p57, List.forall_mem_cons.mpr ⟨lw_p58, List.forall_mem_cons.mpr ⟨lw_p59, List.forall_mem_cons.mpr ⟨lw_p60, List.forall_mem_cons.mpr ⟨lw_p61, List.forall_mem_cons.mpr ⟨lw_p62, List.forall_mem_cons.mpr ⟨lw_p63, fun _ h => absurd h List.not_mem_nil⟩⟩⟩⟩⟩⟩⟩⟩⟩⟩⟩⟩⟩⟩⟩⟩
theorem lw_p64 : lw_okq (⟨"BoundTables$Asker", "bind", "(III)Z"⟩, 15) := ⟨⟨by decide +kernel, by decide +kernel⟩, List.mem_of_getElem? (i := 327) (by decide +kernel), List.mem_of_getElem? (i := 836) (by decide +kernel), List.mem_of_getElem? (i := 837) (by decide +kernel)⟩
theorem lw_p65 : lw_okq (⟨"BoundTables$Asker", "addBound", "(II)V"⟩, 15) := ⟨⟨by decide +kernel, by decide +kernel⟩, List.mem_of_getElem? (i := 327) (by decide +kernel), List.mem_of_getElem? (i := 840) (by decide +kernel), List.mem_of_getElem? (i := 841) (by decide +kernel)⟩
theorem lw_p66 : lw_okq (⟨"BoundTables$Asker", "count", "(I)Z"⟩, 15) := ⟨⟨by decide +kernel, by decide +kernel⟩, List.mem_of_getElem? (i := 327) (by decide +kernel), List.mem_of_getElem? (i := 844) (by decide +kernel), List.mem_of_getElem? (i := 845) (by decide +kernel)⟩
theorem lw_p67 : lw_okq (⟨"BoundTables$Asker", "raise", "(III)I"⟩, 15) := ⟨⟨by decide +kernel, by decide +kernel⟩, List.mem_of_getElem? (i := 327) (by decide +kernel), List.mem_of_getElem? (i := 848) (by decide +kernel), List.mem_of_getElem? (i := 849) (by decide +kernel)⟩
theorem lw_p68 : lw_okq (⟨"BoundTables$Table", "overStart", "(II)I"⟩, 15) := ⟨⟨by decide +kernel, by decide +kernel⟩, List.mem_of_getElem? (i := 120) (by decide +kernel), List.mem_of_getElem? (i := 852) (by decide +kernel), List.mem_of_getElem? (i := 853) (by decide +kernel)⟩
theorem lw_p69 : lw_okq (⟨"BoundTables$Page", "writeType", "(LBoundTables$Types;LBoundTables$Table;I)I"⟩, 5) := ⟨⟨by decide +kernel, by decide +kernel⟩, List.mem_of_getElem? (i := 96) (by decide +kernel), List.mem_of_getElem? (i := 856) (by decide +kernel), List.mem_of_getElem? (i := 857) (by decide +kernel)⟩
theorem lw_p70 : lw_okq (⟨"BoundTables$Page", "openType", "(LBoundTables$Types;LBoundTables$Table;I)V"⟩, 5) := ⟨⟨by decide +kernel, by decide +kernel⟩, List.mem_of_getElem? (i := 96) (by decide +kernel), List.mem_of_getElem? (i := 860) (by decide +kernel), List.mem_of_getElem? (i := 861) (by decide +kernel)⟩
theorem lw_p71 : lw_okq (⟨"BoundTables$Page", "writeHead", "(LBoundTables$Table;I)V"⟩, 5) := ⟨⟨by decide +kernel, by decide +kernel⟩, List.mem_of_getElem? (i := 96) (by decide +kernel), List.mem_of_getElem? (i := 865) (by decide +kernel), List.mem_of_getElem? (i := 866) (by decide +kernel)⟩
theorem lw_p72 : lw_okq (⟨"BoundTables$Page", "write", "(I)V"⟩, 5) := ⟨⟨by decide +kernel, by decide +kernel⟩, List.mem_of_getElem? (i := 96) (by decide +kernel), List.mem_of_getElem? (i := 870) (by decide +kernel), List.mem_of_getElem? (i := 871) (by decide +kernel)⟩
theorem lw_p73 : lw_okq (⟨"BoundTables$Page", "writeNumber", "(I)V"⟩, 5) := ⟨⟨by decide +kernel, by decide +kernel⟩, List.mem_of_getElem? (i := 96) (by decide +kernel), List.mem_of_getElem? (i := 875) (by decide +kernel), List.mem_of_getElem? (i := 876) (by decide +kernel)⟩
theorem lw_p74 : lw_okq (⟨"BoundTables$Page", "writeName", "(J)V"⟩, 5) := ⟨⟨by decide +kernel, by decide +kernel⟩, List.mem_of_getElem? (i := 96) (by decide +kernel), List.mem_of_getElem? (i := 881) (by decide +kernel), List.mem_of_getElem? (i := 882) (by decide +kernel)⟩
theorem lw_p75 : lw_okq (⟨"java/lang/Throwable", "fillInStackTrace", "(I)Ljava/lang/Throwable;"⟩, 6) := ⟨⟨by decide +kernel, by decide +kernel⟩, List.mem_of_getElem? (i := 941) (by decide +kernel), List.mem_of_getElem? (i := 939) (by decide +kernel), List.mem_of_getElem? (i := 940) (by decide +kernel)⟩
theorem lw_p76 : lw_okq (⟨"BoundTables$Tape", "append", "(JI)V"⟩, 9) := ⟨⟨by decide +kernel, by decide +kernel⟩, List.mem_of_getElem? (i := 34) (by decide +kernel), List.mem_of_getElem? (i := 986) (by decide +kernel), List.mem_of_getElem? (i := 987) (by decide +kernel)⟩
theorem lw_p77 : lw_okq (⟨"BoundTables$Table", "countOver", "(I)I"⟩, 15) := ⟨⟨by decide +kernel, by decide +kernel⟩, List.mem_of_getElem? (i := 120) (by decide +kernel), List.mem_of_getElem? (i := 1017) (by decide +kernel), List.mem_of_getElem? (i := 1018) (by decide +kernel)⟩
theorem lw_p78 : lw_okq (⟨"BoundTables$Reader", "readQuestion", "(LBoundTables$Table;)Z"⟩, 11) := ⟨⟨by decide +kernel, by decide +kernel⟩, List.mem_of_getElem? (i := 280) (by decide +kernel), List.mem_of_getElem? (i := 1056) (by decide +kernel), List.mem_of_getElem? (i := 1057) (by decide +kernel)⟩
theorem lw_p79 : lw_okq (⟨"BoundTables$Asker", "below", "(III)I"⟩, 15) := ⟨⟨by decide +kernel, by decide +kernel⟩, List.mem_of_getElem? (i := 327) (by decide +kernel), List.mem_of_getElem? (i := 1060) (by decide +kernel), List.mem_of_getElem? (i := 1061) (by decide +kernel)⟩
def lw_privs_5 : List (MethodName × Nat) := [(⟨"BoundTables$Asker", "bind", "(III)Z"⟩, 15), (⟨"BoundTables$Asker", "addBound", "(II)V"⟩, 15), (⟨"BoundTables$Asker", "count", "(I)Z"⟩, 15), (⟨"BoundTables$Asker", "raise", "(III)I"⟩, 15), (⟨"BoundTables$Table", "overStart", "(II)I"⟩, 15), (⟨"BoundTables$Page", "writeType", "(LBoundTables$Types;LBoundTables$Table;I)I"⟩, 5), (⟨"BoundTables$Page", "openType", "(LBoundTables$Types;LBoundTables$Table;I)V"⟩, 5), (⟨"BoundTables$Page", "writeHead", "(LBoundTables$Table;I)V"⟩, 5), (⟨"BoundTables$Page", "write", "(I)V"⟩, 5), (⟨"BoundTables$Page", "writeNumber", "(I)V"⟩, 5), (⟨"BoundTables$Page", "writeName", "(J)V"⟩, 5), (⟨"java/lang/Throwable", "fillInStackTrace", "(I)Ljava/lang/Throwable;"⟩, 6), (⟨"BoundTables$Tape", "append", "(JI)V"⟩, 9), (⟨"BoundTables$Table", "countOver", "(I)I"⟩, 15), (⟨"BoundTables$Reader", "readQuestion", "(LBoundTables$Table;)Z"⟩, 11), (⟨"BoundTables$Asker", "below", "(III)I"⟩, 15)]
theorem lw_r5 : ∀ q ∈ lw_privs_5, lw_okq q := List.forall_mem_cons.mpr ⟨lw_p64, List.forall_mem_cons.mpr ⟨lw_p65, List.forall_mem_cons.mpr ⟨lw_p66, List.forall_mem_cons.mpr ⟨lw_p67, List.forall_mem_cons.mpr ⟨lw_p68, List.forall_mem_cons.mpr ⟨lw_p69, List.forall_mem_cons.mpr ⟨lw_p70, List.forall_mem_cons.mpr ⟨lw_p71, List.forall_mem_cons.mpr ⟨lw_p72, List.forall_mem_cons.mpr ⟨lw_p73, List.forall_mem_cons.mpr ⟨lw_p74, List.forall_mem_cons.mpr ⟨lw_p75, List.forall_mem_cons.mpr ⟨lw_p76, List.forall_mem_cons.mpr ⟨lw_p77, List.forall_mem_cons.mpr ⟨lw_p78, List.forall_mem_cons.mpr ⟨lw_p79, fun _ h => absurd h List.not_mem_nil⟩⟩⟩⟩⟩⟩⟩⟩⟩⟩⟩⟩⟩⟩⟩⟩
theorem lw_p80 : lw_okq (⟨"BoundTables$Asker", "floorOf", "(I)I"⟩, 15) := ⟨⟨by decide +kernel, by decide +kernel⟩, List.mem_of_getElem? (i := 327) (by decide +kernel), List.mem_of_getElem? (i := 1065) (by decide +kernel), List.mem_of_getElem? (i := 1066) (by decide +kernel)⟩
theorem lw_p81 : lw_okq (⟨"BoundTables$Asker", "boundsBelow", "(III)I"⟩, 15) := ⟨⟨by decide +kernel, by decide +kernel⟩, List.mem_of_getElem? (i := 327) (by decide +kernel), List.mem_of_getElem? (i := 1070) (by decide +kernel), List.mem_of_getElem? (i := 1071) (by decide +kernel)⟩
theorem lw_p82 : lw_okq (⟨"BoundTables$Asker", "boundOf", "(II)I"⟩, 15) := ⟨⟨by decide +kernel, by decide +kernel⟩, List.mem_of_getElem? (i := 327) (by decide +kernel), List.mem_of_getElem? (i := 1074) (by decide +kernel), List.mem_of_getElem? (i := 1075) (by decide +kernel)⟩
theorem lw_p83 : lw_okq (⟨"BoundTables$Asker", "boundOfNew", "(II)I"⟩, 15) := ⟨⟨by decide +kernel, by decide +kernel⟩, List.mem_of_getElem? (i := 327) (by decide +kernel), List.mem_of_getElem? (i := 1079) (by decide +kernel), List.mem_of_getElem? (i := 1080) (by decide +kernel)⟩
theorem lw_p84 : lw_okq (⟨"BoundTables$Asker", "classBelow", "(III)I"⟩, 15) := ⟨⟨by decide +kernel, by decide +kernel⟩, List.mem_of_getElem? (i := 327) (by decide +kernel), List.mem_of_getElem? (i := 1083) (by decide +kernel), List.mem_of_getElem? (i := 1084) (by decide +kernel)⟩
theorem lw_p85 : lw_okq (⟨"BoundTables$Asker", "argBelow", "(III)I"⟩, 15) := ⟨⟨by decide +kernel, by decide +kernel⟩, List.mem_of_getElem? (i := 327) (by decide +kernel), List.mem_of_getElem? (i := 1087) (by decide +kernel), List.mem_of_getElem? (i := 1088) (by decide +kernel)⟩
theorem lw_p86 : lw_okq (⟨"BoundTablesModel", "anew", "()V"⟩, 77) := ⟨⟨by decide +kernel, by decide +kernel⟩, List.mem_of_getElem? (i := 1116) (by decide +kernel), List.mem_of_getElem? (i := 1123) (by decide +kernel), List.mem_of_getElem? (i := 1124) (by decide +kernel)⟩
theorem lw_p87 : lw_okq (⟨"BoundTablesModel", "clearHeads", "()V"⟩, 77) := ⟨⟨by decide +kernel, by decide +kernel⟩, List.mem_of_getElem? (i := 1116) (by decide +kernel), List.mem_of_getElem? (i := 1128) (by decide +kernel), List.mem_of_getElem? (i := 1129) (by decide +kernel)⟩
theorem lw_p88 : lw_okq (⟨"BoundTablesModel", "make", "(III)I"⟩, 77) := ⟨⟨by decide +kernel, by decide +kernel⟩, List.mem_of_getElem? (i := 1116) (by decide +kernel), List.mem_of_getElem? (i := 1132) (by decide +kernel), List.mem_of_getElem? (i := 1133) (by decide +kernel)⟩
theorem lw_p89 : lw_okq (⟨"BoundTablesModel", "slotOf", "(III)I"⟩, 77) := ⟨⟨by decide +kernel, by decide +kernel⟩, List.mem_of_getElem? (i := 1116) (by decide +kernel), List.mem_of_getElem? (i := 1136) (by decide +kernel), List.mem_of_getElem? (i := 1137) (by decide +kernel)⟩
theorem lw_p90 : lw_okq (⟨"BoundTablesModel", "isLike", "(IIII)Z"⟩, 77) := ⟨⟨by decide +kernel, by decide +kernel⟩, List.mem_of_getElem? (i := 1116) (by decide +kernel), List.mem_of_getElem? (i := 1141) (by decide +kernel), List.mem_of_getElem? (i := 1142) (by decide +kernel)⟩
theorem lw_p91 : lw_okq (⟨"BoundTablesModel", "forgetAsked", "()V"⟩, 77) := ⟨⟨by decide +kernel, by decide +kernel⟩, List.mem_of_getElem? (i := 1116) (by decide +kernel), List.mem_of_getElem? (i := 1146) (by decide +kernel), List.mem_of_getElem? (i := 1147) (by decide +kernel)⟩
theorem lw_p92 : lw_okq (⟨"BoundTablesModel", "begin", "()V"⟩, 77) := ⟨⟨by decide +kernel, by decide +kernel⟩, List.mem_of_getElem? (i := 1116) (by decide +kernel), List.mem_of_getElem? (i := 1387) (by decide +kernel), List.mem_of_getElem? (i := 1388) (by decide +kernel)⟩
theorem lw_p93 : lw_okq (⟨"BoundTablesModel", "pass", "()V"⟩, 77) := ⟨⟨by decide +kernel, by decide +kernel⟩, List.mem_of_getElem? (i := 1116) (by decide +kernel), List.mem_of_getElem? (i := 1391) (by decide +kernel), List.mem_of_getElem? (i := 1392) (by decide +kernel)⟩
theorem lw_p94 : lw_okq (⟨"BoundTablesModel", "isPart", "(I)Z"⟩, 77) := ⟨⟨by decide +kernel, by decide +kernel⟩, List.mem_of_getElem? (i := 1116) (by decide +kernel), List.mem_of_getElem? (i := 1398) (by decide +kernel), List.mem_of_getElem? (i := 1399) (by decide +kernel)⟩
theorem lw_p95 : lw_okq (⟨"BoundTablesModel", "nameAt", "(II)J"⟩, 77) := ⟨⟨by decide +kernel, by decide +kernel⟩, List.mem_of_getElem? (i := 1116) (by decide +kernel), List.mem_of_getElem? (i := 1402) (by decide +kernel), List.mem_of_getElem? (i := 1403) (by decide +kernel)⟩
def lw_privs_6 : List (MethodName × Nat) := [(⟨"BoundTables$Asker", "floorOf", "(I)I"⟩, 15), (⟨"BoundTables$Asker", "boundsBelow", "(III)I"⟩, 15), (⟨"BoundTables$Asker", "boundOf", "(II)I"⟩, 15), (⟨"BoundTables$Asker", "boundOfNew", "(II)I"⟩, 15), (⟨"BoundTables$Asker", "classBelow", "(III)I"⟩, 15), (⟨"BoundTables$Asker", "argBelow", "(III)I"⟩, 15), (⟨"BoundTablesModel", "anew", "()V"⟩, 77), (⟨"BoundTablesModel", "clearHeads", "()V"⟩, 77), (⟨"BoundTablesModel", "make", "(III)I"⟩, 77), (⟨"BoundTablesModel", "slotOf", "(III)I"⟩, 77), (⟨"BoundTablesModel", "isLike", "(IIII)Z"⟩, 77), (⟨"BoundTablesModel", "forgetAsked", "()V"⟩, 77), (⟨"BoundTablesModel", "begin", "()V"⟩, 77), (⟨"BoundTablesModel", "pass", "()V"⟩, 77), (⟨"BoundTablesModel", "isPart", "(I)Z"⟩, 77), (⟨"BoundTablesModel", "nameAt", "(II)J"⟩, 77)]
theorem lw_r6 : ∀ q ∈ lw_privs_6, lw_okq q := List.forall_mem_cons.mpr ⟨lw_p80, List.forall_mem_cons.mpr ⟨lw_p81, List.forall_mem_cons.mpr ⟨lw_p82, List.forall_mem_cons.mpr ⟨lw_p83, List.forall_mem_cons.mpr ⟨lw_p84, List.forall_mem_cons.mpr ⟨lw_p85, List.forall_mem_cons.mpr ⟨lw_p86, List.forall_mem_cons.mpr ⟨lw_p87, List.forall_mem_cons.mpr ⟨lw_p88, List.forall_mem_cons.mpr ⟨lw_p89, List.forall_mem_cons.mpr ⟨lw_p90, List.forall_mem_cons.mpr ⟨lw_p91, List.forall_mem_cons.mpr ⟨lw_p92, List.forall_mem_cons.mpr ⟨lw_p93, List.forall_mem_cons.mpr ⟨lw_p94, List.forall_mem_cons.mpr ⟨lw_p95, fun _ h => absurd h List.not_mem_nil⟩⟩⟩⟩⟩⟩⟩⟩⟩⟩⟩⟩⟩⟩⟩⟩
theorem lw_p96 : lw_okq (⟨"BoundTablesModel", "readDecl", "()Z"⟩, 77) := ⟨⟨by decide +kernel, by decide +kernel⟩, List.mem_of_getElem? (i := 1116) (by decide +kernel), List.mem_of_getElem? (i := 1412) (by decide +kernel), List.mem_of_getElem? (i := 1413) (by decide +kernel)⟩
theorem lw_p97 : lw_okq (⟨"BoundTablesModel", "readHead", "(I)Z"⟩, 77) := ⟨⟨by decide +kernel, by decide +kernel⟩, List.mem_of_getElem? (i := 1116) (by decide +kernel), List.mem_of_getElem? (i := 1416) (by decide +kernel), List.mem_of_getElem? (i := 1417) (by decide +kernel)⟩
theorem lw_p98 : lw_okq (⟨"BoundTablesModel", "fail", "(I)Z"⟩, 77) := ⟨⟨by decide +kernel, by decide +kernel⟩, List.mem_of_getElem? (i := 1116) (by decide +kernel), List.mem_of_getElem? (i := 1420) (by decide +kernel), List.mem_of_getElem? (i := 1421) (by decide +kernel)⟩
theorem lw_p99 : lw_okq (⟨"BoundTablesModel", "name", "()J"⟩, 77) := ⟨⟨by decide +kernel, by decide +kernel⟩, List.mem_of_getElem? (i := 1116) (by decide +kernel), List.mem_of_getElem? (i := 1424) (by decide +kernel), List.mem_of_getElem? (i := 1425) (by decide +kernel)⟩
theorem lw_p100 : lw_okq (⟨"BoundTablesModel", "findClass", "(J)I"⟩, 77) := ⟨⟨by decide +kernel, by decide +kernel⟩, List.mem_of_getElem? (i := 1116) (by decide +kernel), List.mem_of_getElem? (i := 1428) (by decide +kernel), List.mem_of_getElem? (i := 1429) (by decide +kernel)⟩
theorem lw_p101 : lw_okq (⟨"BoundTablesModel", "findParam", "(IJ)I"⟩, 77) := ⟨⟨by decide +kernel, by decide +kernel⟩, List.mem_of_getElem? (i := 1116) (by decide +kernel), List.mem_of_getElem? (i := 1432) (by decide +kernel), List.mem_of_getElem? (i := 1433) (by decide +kernel)⟩
theorem lw_p102 : lw_okq (⟨"BoundTablesModel", "want", "(I)Z"⟩, 77) := ⟨⟨by decide +kernel, by decide +kernel⟩, List.mem_of_getElem? (i := 1116) (by decide +kernel), List.mem_of_getElem? (i := 1436) (by decide +kernel), List.mem_of_getElem? (i := 1437) (by decide +kernel)⟩
theorem lw_p103 : lw_okq (⟨"BoundTablesModel", "readBounds", "(I)Z"⟩, 77) := ⟨⟨by decide +kernel, by decide +kernel⟩, List.mem_of_getElem? (i := 1116) (by decide +kernel), List.mem_of_getElem? (i := 1440) (by decide +kernel), List.mem_of_getElem? (i := 1441) (by decide +kernel)⟩
theorem lw_p104 : lw_okq (⟨"BoundTablesModel", "readType", "(IIZ)I"⟩, 77) := ⟨⟨by decide +kernel, by decide +kernel⟩, List.mem_of_getElem? (i := 1116) (by decide +kernel), List.mem_of_getElem? (i := 1444) (by decide +kernel), List.mem_of_getElem? (i := 1445) (by decide +kernel)⟩
theorem lw_p105 : lw_okq (⟨"BoundTablesModel", "openType", "(IIIZ)Z"⟩, 77) := ⟨⟨by decide +kernel, by decide +kernel⟩, List.mem_of_getElem? (i := 1116) (by decide +kernel), List.mem_of_getElem? (i := 1448) (by decide +kernel), List.mem_of_getElem? (i := 1449) (by decide +kernel)⟩
theorem lw_p106 : lw_okq (⟨"BoundTablesModel", "isBefore", "(I)Z"⟩, 77) := ⟨⟨by decide +kernel, by decide +kernel⟩, List.mem_of_getElem? (i := 1116) (by decide +kernel), List.mem_of_getElem? (i := 1452) (by decide +kernel), List.mem_of_getElem? (i := 1453) (by decide +kernel)⟩
theorem lw_p107 : lw_okq (⟨"BoundTablesModel", "addArg", "(II)V"⟩, 77) := ⟨⟨by decide +kernel, by decide +kernel⟩, List.mem_of_getElem? (i := 1116) (by decide +kernel), List.mem_of_getElem? (i := 1456) (by decide +kernel), List.mem_of_getElem? (i := 1457) (by decide +kernel)⟩
theorem lw_p108 : lw_okq (⟨"BoundTablesModel", "mayStandBehind", "(II)Z"⟩, 77) := ⟨⟨by decide +kernel, by decide +kernel⟩, List.mem_of_getElem? (i := 1116) (by decide +kernel), List.mem_of_getElem? (i := 1460) (by decide +kernel), List.mem_of_getElem? (i := 1461) (by decide +kernel)⟩
theorem lw_p109 : lw_okq (⟨"BoundTablesModel", "closed", "(I)I"⟩, 77) := ⟨⟨by decide +kernel, by decide +kernel⟩, List.mem_of_getElem? (i := 1116) (by decide +kernel), List.mem_of_getElem? (i := 1464) (by decide +kernel), List.mem_of_getElem? (i := 1465) (by decide +kernel)⟩
theorem lw_p110 : lw_okq (⟨"BoundTablesModel", "readSupers", "(I)Z"⟩, 77) := ⟨⟨by decide +kernel, by decide +kernel⟩, List.mem_of_getElem? (i := 1116) (by decide +kernel), List.mem_of_getElem? (i := 1468) (by decide +kernel), List.mem_of_getElem? (i := 1469) (by decide +kernel)⟩
theorem lw_p111 : lw_okq (⟨"BoundTablesModel", "findAbove", "(I)Z"⟩, 77) := ⟨⟨by decide +kernel, by decide +kernel⟩, List.mem_of_getElem? (i := 1116) (by decide +kernel), List.mem_of_getElem? (i := 1472) (by decide +kernel), List.mem_of_getElem? (i := 1473) (by decide +kernel)⟩
def lw_privs_7 : List (MethodName × Nat) := [(⟨"BoundTablesModel", "readDecl", "()Z"⟩, 77), (⟨"BoundTablesModel", "readHead", "(I)Z"⟩, 77), (⟨"BoundTablesModel", "fail", "(I)Z"⟩, 77), (⟨"BoundTablesModel", "name", "()J"⟩, 77), (⟨"BoundTablesModel", "findClass", "(J)I"⟩, 77), (⟨"BoundTablesModel", "findParam", "(IJ)I"⟩, 77), (⟨"BoundTablesModel", "want", "(I)Z"⟩, 77), (⟨"BoundTablesModel", "readBounds", "(I)Z"⟩, 77), (⟨"BoundTablesModel", "readType", "(IIZ)I"⟩, 77), (⟨"BoundTablesModel", "openType", "(IIIZ)Z"⟩, 77), (⟨"BoundTablesModel", "isBefore", "(I)Z"⟩, 77), (⟨"BoundTablesModel", "addArg", "(II)V"⟩, 77), (⟨"BoundTablesModel", "mayStandBehind", "(II)Z"⟩, 77), (⟨"BoundTablesModel", "closed", "(I)I"⟩, 77), (⟨"BoundTablesModel", "readSupers", "(I)Z"⟩, 77), (⟨"BoundTablesModel", "findAbove", "(I)Z"⟩, 77)]
theorem lw_r7 : ∀ q ∈ lw_privs_7, lw_okq q := List.forall_mem_cons.mpr ⟨lw_p96, List.forall_mem_cons.mpr ⟨lw_p97, List.forall_mem_cons.mpr ⟨lw_p98, List.forall_mem_cons.mpr ⟨lw_p99, List.forall_mem_cons.mpr ⟨lw_p100, List.forall_mem_cons.mpr ⟨lw_p101, List.forall_mem_cons.mpr ⟨lw_p102, List.forall_mem_cons.mpr ⟨lw_p103, List.forall_mem_cons.mpr ⟨lw_p104, List.forall_mem_cons.mpr ⟨lw_p105, List.forall_mem_cons.mpr ⟨lw_p106, List.forall_mem_cons.mpr ⟨lw_p107, List.forall_mem_cons.mpr ⟨lw_p108, List.forall_mem_cons.mpr ⟨lw_p109, List.forall_mem_cons.mpr ⟨lw_p110, List.forall_mem_cons.mpr ⟨lw_p111, fun _ h => absurd h List.not_mem_nil⟩⟩⟩⟩⟩⟩⟩⟩⟩⟩⟩⟩⟩⟩⟩⟩
theorem lw_p112 : lw_okq (⟨"BoundTablesModel", "substitute", "(IIII)I"⟩, 77) := ⟨⟨by decide +kernel, by decide +kernel⟩, List.mem_of_getElem? (i := 1116) (by decide +kernel), List.mem_of_getElem? (i := 1476) (by decide +kernel), List.mem_of_getElem? (i := 1477) (by decide +kernel)⟩
theorem lw_p113 : lw_okq (⟨"BoundTablesModel", "substituted", "(IIII)I"⟩, 77) := ⟨⟨by decide +kernel, by decide +kernel⟩, List.mem_of_getElem? (i := 1116) (by decide +kernel), List.mem_of_getElem? (i := 1480) (by decide +kernel), List.mem_of_getElem? (i := 1481) (by decide +kernel)⟩
theorem lw_p114 : lw_okq (⟨"BoundTablesModel", "chainAgain", "(II)V"⟩, 77) := ⟨⟨by decide +kernel, by decide +kernel⟩, List.mem_of_getElem? (i := 1116) (by decide +kernel), List.mem_of_getElem? (i := 1484) (by decide +kernel), List.mem_of_getElem? (i := 1485) (by decide +kernel)⟩
theorem lw_p115 : lw_okq (⟨"BoundTablesModel", "commit", "(I)V"⟩, 77) := ⟨⟨by decide +kernel, by decide +kernel⟩, List.mem_of_getElem? (i := 1116) (by decide +kernel), List.mem_of_getElem? (i := 1488) (by decide +kernel), List.mem_of_getElem? (i := 1489) (by decide +kernel)⟩
theorem lw_p116 : lw_okq (⟨"BoundTablesModel", "down", "(II)I"⟩, 77) := ⟨⟨by decide +kernel, by decide +kernel⟩, List.mem_of_getElem? (i := 1116) (by decide +kernel), List.mem_of_getElem? (i := 1492) (by decide +kernel), List.mem_of_getElem? (i := 1493) (by decide +kernel)⟩
theorem lw_p117 : lw_okq (⟨"BoundTablesModel", "findWays", "()V"⟩, 77) := ⟨⟨by decide +kernel, by decide +kernel⟩, List.mem_of_getElem? (i := 1116) (by decide +kernel), List.mem_of_getElem? (i := 1496) (by decide +kernel), List.mem_of_getElem? (i := 1497) (by decide +kernel)⟩
theorem lw_p118 : lw_okq (⟨"BoundTablesModel", "waysOf", "(I)V"⟩, 77) := ⟨⟨by decide +kernel, by decide +kernel⟩, List.mem_of_getElem? (i := 1116) (by decide +kernel), List.mem_of_getElem? (i := 1500) (by decide +kernel), List.mem_of_getElem? (i := 1501) (by decide +kernel)⟩
theorem lw_p119 : lw_okq (⟨"BoundTablesModel", "addWays", "(II)V"⟩, 77) := ⟨⟨by decide +kernel, by decide +kernel⟩, List.mem_of_getElem? (i := 1116) (by decide +kernel), List.mem_of_getElem? (i := 1504) (by decide +kernel), List.mem_of_getElem? (i := 1505) (by decide +kernel)⟩
theorem lw_p120 : lw_okq (⟨"BoundTablesModel", "isOnGrowing", "(I)Z"⟩, 77) := ⟨⟨by decide +kernel, by decide +kernel⟩, List.mem_of_getElem? (i := 1116) (by decide +kernel), List.mem_of_getElem? (i := 1508) (by decide +kernel), List.mem_of_getElem? (i := 1509) (by decide +kernel)⟩
theorem lw_p121 : lw_okq (⟨"BoundTablesModel", "readTwice", "(Z)Z"⟩, 77) := ⟨⟨by decide +kernel, by decide +kernel⟩, List.mem_of_getElem? (i := 1116) (by decide +kernel), List.mem_of_getElem? (i := 1516) (by decide +kernel), List.mem_of_getElem? (i := 1517) (by decide +kernel)⟩
theorem lw_p122 : lw_okq (⟨"BoundTablesModel", "readQuestion", "()Z"⟩, 77) := ⟨⟨by decide +kernel, by decide +kernel⟩, List.mem_of_getElem? (i := 1116) (by decide +kernel), List.mem_of_getElem? (i := 1520) (by decide +kernel), List.mem_of_getElem? (i := 1521) (by decide +kernel)⟩
theorem lw_p123 : lw_okq (⟨"BoundTablesModel", "readIn", "()Z"⟩, 77) := ⟨⟨by decide +kernel, by decide +kernel⟩, List.mem_of_getElem? (i := 1116) (by decide +kernel), List.mem_of_getElem? (i := 1524) (by decide +kernel), List.mem_of_getElem? (i := 1525) (by decide +kernel)⟩
theorem lw_p124 : lw_okq (⟨"BoundTablesModel", "readPlace", "()Z"⟩, 77) := ⟨⟨by decide +kernel, by decide +kernel⟩, List.mem_of_getElem? (i := 1116) (by decide +kernel), List.mem_of_getElem? (i := 1528) (by decide +kernel), List.mem_of_getElem? (i := 1529) (by decide +kernel)⟩
theorem lw_p125 : lw_okq (⟨"BoundTablesModel", "questions", "(III)I"⟩, 77) := ⟨⟨by decide +kernel, by decide +kernel⟩, List.mem_of_getElem? (i := 1116) (by decide +kernel), List.mem_of_getElem? (i := 1532) (by decide +kernel), List.mem_of_getElem? (i := 1533) (by decide +kernel)⟩
theorem lw_p126 : lw_okq (⟨"BoundTablesModel", "ask2", "(II)Z"⟩, 77) := ⟨⟨by decide +kernel, by decide +kernel⟩, List.mem_of_getElem? (i := 1116) (by decide +kernel), List.mem_of_getElem? (i := 1536) (by decide +kernel), List.mem_of_getElem? (i := 1537) (by decide +kernel)⟩
theorem lw_p127 : lw_okq (⟨"BoundTablesModel", "opened", "(I)I"⟩, 77) := ⟨⟨by decide +kernel, by decide +kernel⟩, List.mem_of_getElem? (i := 1116) (by decide +kernel), List.mem_of_getElem? (i := 1540) (by decide +kernel), List.mem_of_getElem? (i := 1541) (by decide +kernel)⟩
def lw_privs_8 : List (MethodName × Nat) := [(⟨"BoundTablesModel", "substitute", "(IIII)I"⟩, 77), (⟨"BoundTablesModel", "substituted", "(IIII)I"⟩, 77), (⟨"BoundTablesModel", "chainAgain", "(II)V"⟩, 77), (⟨"BoundTablesModel", "commit", "(I)V"⟩, 77), (⟨"BoundTablesModel", "down", "(II)I"⟩, 77), (⟨"BoundTablesModel", "findWays", "()V"⟩, 77), (⟨"BoundTablesModel", "waysOf", "(I)V"⟩, 77), (⟨"BoundTablesModel", "addWays", "(II)V"⟩, 77), (⟨"BoundTablesModel", "isOnGrowing", "(I)Z"⟩, 77), (⟨"BoundTablesModel", "readTwice", "(Z)Z"⟩, 77), (⟨"BoundTablesModel", "readQuestion", "()Z"⟩, 77), (⟨"BoundTablesModel", "readIn", "()Z"⟩, 77), (⟨"BoundTablesModel", "readPlace", "()Z"⟩, 77), (⟨"BoundTablesModel", "questions", "(III)I"⟩, 77), (⟨"BoundTablesModel", "ask2", "(II)Z"⟩, 77), (⟨"BoundTablesModel", "opened", "(I)I"⟩, 77)]
theorem lw_r8 : ∀ q ∈ lw_privs_8, lw_okq q := List.forall_mem_cons.mpr ⟨lw_p112, List.forall_mem_cons.mpr ⟨lw_p113, List.forall_mem_cons.mpr ⟨lw_p114, List.forall_mem_cons.mpr ⟨lw_p115, List.forall_mem_cons.mpr ⟨lw_p116, List.forall_mem_cons.mpr ⟨lw_p117, List.forall_mem_cons.mpr ⟨lw_p118, List.forall_mem_cons.mpr ⟨lw_p119, List.forall_mem_cons.mpr ⟨lw_p120, List.forall_mem_cons.mpr ⟨lw_p121, List.forall_mem_cons.mpr ⟨lw_p122, List.forall_mem_cons.mpr ⟨lw_p123, List.forall_mem_cons.mpr ⟨lw_p124, List.forall_mem_cons.mpr ⟨lw_p125, List.forall_mem_cons.mpr ⟨lw_p126, List.forall_mem_cons.mpr ⟨lw_p127, fun _ h => absurd h List.not_mem_nil⟩⟩⟩⟩⟩⟩⟩⟩⟩⟩⟩⟩⟩⟩⟩⟩
theorem lw_p128 : lw_okq (⟨"BoundTablesModel", "behindFloor", "(I)I"⟩, 77) := ⟨⟨by decide +kernel, by decide +kernel⟩, List.mem_of_getElem? (i := 1116) (by decide +kernel), List.mem_of_getElem? (i := 1544) (by decide +kernel), List.mem_of_getElem? (i := 1545) (by decide +kernel)⟩
theorem lw_p129 : lw_okq (⟨"BoundTablesModel", "isVariable", "(I)Z"⟩, 77) := ⟨⟨by decide +kernel, by decide +kernel⟩, List.mem_of_getElem? (i := 1116) (by decide +kernel), List.mem_of_getElem? (i := 1548) (by decide +kernel), List.mem_of_getElem? (i := 1549) (by decide +kernel)⟩
theorem lw_p130 : lw_okq (⟨"BoundTablesModel", "boundOf", "(II)I"⟩, 77) := ⟨⟨by decide +kernel, by decide +kernel⟩, List.mem_of_getElem? (i := 1116) (by decide +kernel), List.mem_of_getElem? (i := 1552) (by decide +kernel), List.mem_of_getElem? (i := 1553) (by decide +kernel)⟩
theorem lw_p131 : lw_okq (⟨"BoundTablesModel", "captured", "(I)I"⟩, 77) := ⟨⟨by decide +kernel, by decide +kernel⟩, List.mem_of_getElem? (i := 1116) (by decide +kernel), List.mem_of_getElem? (i := 1556) (by decide +kernel), List.mem_of_getElem? (i := 1557) (by decide +kernel)⟩
theorem lw_p132 : lw_okq (⟨"BoundTablesModel", "bind", "(IIIII)Z"⟩, 77) := ⟨⟨by decide +kernel, by decide +kernel⟩, List.mem_of_getElem? (i := 1116) (by decide +kernel), List.mem_of_getElem? (i := 1560) (by decide +kernel), List.mem_of_getElem? (i := 1561) (by decide +kernel)⟩
theorem lw_p133 : lw_okq (⟨"BoundTablesModel", "aboveOf", "(II)I"⟩, 77) := ⟨⟨by decide +kernel, by decide +kernel⟩, List.mem_of_getElem? (i := 1116) (by decide +kernel), List.mem_of_getElem? (i := 1564) (by decide +kernel), List.mem_of_getElem? (i := 1565) (by decide +kernel)⟩
theorem lw_p134 : lw_okq (⟨"BoundTablesModel", "pairs", "(I)I"⟩, 77) := ⟨⟨by decide +kernel, by decide +kernel⟩, List.mem_of_getElem? (i := 1116) (by decide +kernel), List.mem_of_getElem? (i := 1568) (by decide +kernel), List.mem_of_getElem? (i := 1569) (by decide +kernel)⟩
theorem lw_p135 : lw_okq (⟨"BoundTablesModel", "resumed", "(II)I"⟩, 77) := ⟨⟨by decide +kernel, by decide +kernel⟩, List.mem_of_getElem? (i := 1116) (by decide +kernel), List.mem_of_getElem? (i := 1572) (by decide +kernel), List.mem_of_getElem? (i := 1573) (by decide +kernel)⟩
theorem lw_p136 : lw_okq (⟨"BoundTablesModel", "boundsOf", "(I)I"⟩, 77) := ⟨⟨by decide +kernel, by decide +kernel⟩, List.mem_of_getElem? (i := 1116) (by decide +kernel), List.mem_of_getElem? (i := 1576) (by decide +kernel), List.mem_of_getElem? (i := 1577) (by decide +kernel)⟩
theorem lw_p137 : lw_okq (⟨"BoundTablesModel", "write", "(I)V"⟩, 77) := ⟨⟨by decide +kernel, by decide +kernel⟩, List.mem_of_getElem? (i := 1116) (by decide +kernel), List.mem_of_getElem? (i := 1584) (by decide +kernel), List.mem_of_getElem? (i := 1585) (by decide +kernel)⟩
theorem lw_p138 : lw_okq (⟨"BoundTablesModel", "head", "(I)V"⟩, 77) := ⟨⟨by decide +kernel, by decide +kernel⟩, List.mem_of_getElem? (i := 1116) (by decide +kernel), List.mem_of_getElem? (i := 1588) (by decide +kernel), List.mem_of_getElem? (i := 1589) (by decide +kernel)⟩
theorem lw_p139 : lw_okq (⟨"BoundTablesModel", "signs", "(J)V"⟩, 77) := ⟨⟨by decide +kernel, by decide +kernel⟩, List.mem_of_getElem? (i := 1116) (by decide +kernel), List.mem_of_getElem? (i := 1592) (by decide +kernel), List.mem_of_getElem? (i := 1593) (by decide +kernel)⟩
theorem lw_p140 : lw_okq (⟨"BoundTablesModel", "sign", "(I)V"⟩, 77) := ⟨⟨by decide +kernel, by decide +kernel⟩, List.mem_of_getElem? (i := 1116) (by decide +kernel), List.mem_of_getElem? (i := 1596) (by decide +kernel), List.mem_of_getElem? (i := 1597) (by decide +kernel)⟩
theorem lw_p141 : lw_okq (⟨"BoundTablesModel", "isClass", "(I)Z"⟩, 77) := ⟨⟨by decide +kernel, by decide +kernel⟩, List.mem_of_getElem? (i := 1116) (by decide +kernel), List.mem_of_getElem? (i := 1620) (by decide +kernel), List.mem_of_getElem? (i := 1621) (by decide +kernel)⟩
theorem lw_p142 : lw_okq (⟨"BoundTablesModel", "isOver", "(II)Z"⟩, 77) := ⟨⟨by decide +kernel, by decide +kernel⟩, List.mem_of_getElem? (i := 1116) (by decide +kernel), List.mem_of_getElem? (i := 1624) (by decide +kernel), List.mem_of_getElem? (i := 1625) (by decide +kernel)⟩
theorem lw_p143 : lw_okq (⟨"BoundTablesModel", "isParam", "(I)Z"⟩, 77) := ⟨⟨by decide +kernel, by decide +kernel⟩, List.mem_of_getElem? (i := 1116) (by decide +kernel), List.mem_of_getElem? (i := 1637) (by decide +kernel), List.mem_of_getElem? (i := 1638) (by decide +kernel)⟩
def lw_privs_9 : List (MethodName × Nat) := [(⟨"BoundTablesModel", "behindFloor", "(I)I"⟩, 77), (⟨"BoundTablesModel", "isVariable", "(I)Z"⟩, 77), (⟨"BoundTablesModel", "boundOf", "(II)I"⟩, 77), (⟨"BoundTablesModel", "captured", "(I)I"⟩, 77), (⟨"BoundTablesModel", "bind", "(IIIII)Z"⟩, 77), (⟨"BoundTablesModel", "aboveOf", "(II)I"⟩, 77), (⟨"BoundTablesModel", "pairs", "(I)I"⟩, 77), (⟨"BoundTablesModel", "resumed", "(II)I"⟩, 77), (⟨"BoundTablesModel", "boundsOf", "(I)I"⟩, 77), (⟨"BoundTablesModel", "write", "(I)V"⟩, 77), (⟨"BoundTablesModel", "head", "(I)V"⟩, 77), (⟨"BoundTablesModel", "signs", "(J)V"⟩, 77), (⟨"BoundTablesModel", "sign", "(I)V"⟩, 77), (⟨"BoundTablesModel", "isClass", "(I)Z"⟩, 77), (⟨"BoundTablesModel", "isOver", "(II)Z"⟩, 77), (⟨"BoundTablesModel", "isParam", "(I)Z"⟩, 77)]
theorem lw_r9 : ∀ q ∈ lw_privs_9, lw_okq q := List.forall_mem_cons.mpr ⟨lw_p128, List.forall_mem_cons.mpr ⟨lw_p129, List.forall_mem_cons.mpr ⟨lw_p130, List.forall_mem_cons.mpr ⟨lw_p131, List.forall_mem_cons.mpr ⟨lw_p132, List.forall_mem_cons.mpr ⟨lw_p133, List.forall_mem_cons.mpr ⟨lw_p134, List.forall_mem_cons.mpr ⟨lw_p135, List.forall_mem_cons.mpr ⟨lw_p136, List.forall_mem_cons.mpr ⟨lw_p137, List.forall_mem_cons.mpr ⟨lw_p138, List.forall_mem_cons.mpr ⟨lw_p139, List.forall_mem_cons.mpr ⟨lw_p140, List.forall_mem_cons.mpr ⟨lw_p141, List.forall_mem_cons.mpr ⟨lw_p142, List.forall_mem_cons.mpr ⟨lw_p143, fun _ h => absurd h List.not_mem_nil⟩⟩⟩⟩⟩⟩⟩⟩⟩⟩⟩⟩⟩⟩⟩⟩
def lw_privs : List (MethodName × Nat) := lw_privs_1 ++ (lw_privs_2 ++ (lw_privs_3 ++ (lw_privs_4 ++ (lw_privs_5 ++ (lw_privs_6 ++ (lw_privs_7 ++ (lw_privs_8 ++ (lw_privs_9))))))))
def lw_tbl : List Cond := k2_sels lw_privs ++ tables_1
theorem lw_privs_ok : ∀ q ∈ lw_privs, lw_okq q := by
  show ∀ q ∈ lw_privs_1 ++ (lw_privs_2 ++ (lw_privs_3 ++ (lw_privs_4 ++ (lw_privs_5 ++ (lw_privs_6 ++ (lw_privs_7 ++ (lw_privs_8 ++ (lw_privs_9)))))))), lw_okq q
  exact List.forall_mem_append.mpr ⟨lw_r1, List.forall_mem_append.mpr ⟨lw_r2, List.forall_mem_append.mpr ⟨lw_r3, List.forall_mem_append.mpr ⟨lw_r4, List.forall_mem_append.mpr ⟨lw_r5, List.forall_mem_append.mpr ⟨lw_r6, List.forall_mem_append.mpr ⟨lw_r7, List.forall_mem_append.mpr ⟨lw_r8, lw_r9⟩⟩⟩⟩⟩⟩⟩⟩
-- ===== end of PART A; then your names; then what follows =====
end
section
/-! ===== BEGIN words of one list among another's, by their places ===== -/
theorem goodIn_r {big : List Cond} (ws : List Cond) (ps : List Nat) (hp : ws = ps.filterMap (fun i => big[i]?)) (h : ws.all goodWord = true) : GoodIn big ws := by
  intro w hw
  have h1 := List.all_eq_true.mp h w hw
  rw [hp] at hw
  obtain ⟨i, -, hi⟩ := List.mem_filterMap.mp hw
  have hm : w ∈ big := by first | exact List.mem_of_getElem? hi | exact List.getElem?_mem hi
  exact ⟨hm, good_of_word h1⟩
theorem goodIn_app {big a b : List Cond} (ha : GoodIn big a) (hb : GoodIn big b) : GoodIn big (a ++ b) := fun w h => (List.mem_append.mp h).elim (ha w) (hb w)
theorem goodIn_ca {big a b : List Cond} {c : Cond} (ha : GoodIn big (c :: a)) (hb : GoodIn big b) : GoodIn big (c :: (a ++ b)) := fun w h => (List.mem_cons.mp h).elim (fun e => ha w (List.mem_cons.mpr (Or.inl e))) (fun h => (List.mem_append.mp h).elim (fun h => ha w (List.mem_cons.mpr (Or.inr h))) (hb w))
theorem goodIn_sub {big ws : List Cond} (hm : ∀ w ∈ ws, w ∈ big) (h : ws.all goodWord = true) : GoodIn big ws := fun w hw => ⟨hm w hw, good_of_word (List.all_eq_true.mp h w hw)⟩
/-! ===== END ===== -/

/-! ===== BEGIN exceptions that leave a method, and their catching by the caller (launches without stack traces) ===== -/
section VXA
/-! The laws vx_back, vx_callV, vx_callS, vx_callSW, vx_throw0, vx_throwS follow proofs of the library, with one case more: JvmDerived/Free/Laws.lean (Back.of_free), Shelf42/LK1.lean (callV, callS), Shelf/KitTraced.lean (throwNew0V, throwNewS). -/
/-- where a method has thrown q: the class by its name, the cell, what was written, the world -/
def vx_T (XC : String → State → State → Prop) (st : State) (q : Addr) (t : State) (mc ms : Nat) (free : Addr → Prop) : Prop :=
  ∃ (E : String) (ce : Cell) (L : List Loc), XC E st t ∧ t.heap[q]? = some ce ∧ ce.vm = .none ∧ st.vm.findClass E = some ce.cls ∧ st.WarmedH t.vm ∧ st.sameButNew ({ t with vm := st.vm } : State) L mc ms ∧ ∀ z ∈ L, free z.base
def vx_Q (Qc : Array Value → State → Outcome → State → Prop) (XC : String → State → State → Prop) (mc ms : Nat) (free : Addr → Prop) : Array Value → State → Outcome → State → Prop := fun a st o t =>
  (Qc a st o t ∧ ∃ L, FrameEnd st o t L mc ms ∧ ∀ q ∈ L, free q.base) ∨ ∃ q, o = .threw q ∧ vx_T XC st q t mc ms free
/-- a callee that returns or throws -/
def vx_Met (l : Launch) (y : MethodName) (ws : List Cond) (rm : Room) (Pc : Array Value → State → Prop) (Qc : Array Value → State → Outcome → State → Prop) (XC : String → State → State → Prop) (mc ms : Nat) (free : Addr → Prop) : Prop :=
  MetFree l y (headSpec ws rm) Pc (fun _ _ _ _ _ => True) (vx_Q Qc XC mc ms free)
def vx_Post (XC : String → State → State → Prop) (mc ms : Nat) (free : Addr → Prop) : Pt → Array Value → Addr → Pt → Prop := fun A a q B =>
  ∃ (g : JFrame) (mk : MethodId) (t : State) (L : List Loc) (E : String) (ce : Cell), B.U.heap = t.heap ∧ B.U.vm = t.vm ∧ XC E (A.U.calling g mk a) t ∧ t.heap[q]? = some ce ∧ ce.vm = .none ∧ A.U.vm.findClass E = some ce.cls ∧ B.locs = A.locs ++ L ∧ (∀ z ∈ L, free z.base) ∧ B.cells = A.cells + mc ∧ B.slots = A.slots + ms
def vx_Back (l : Launch) (R : Room) (p : Program) (e : Env) (below : List Frame) (s : State) (sargs : Array Value) (y : MethodName) (len W9 : Nat)
    (Pre : Pt → Array Value → Prop) (Post : Pt → Array Value → Option Value → Pt → Prop) (PostX : Pt → Array Value → Addr → Pt → Prop) : Prop :=
  ∀ (m : MethodId) (meth : Method) (c : Code) (A : Pt) (g : JFrame) (ig : Instr) (mk : MethodId) (a : Array Value),
    Stand p l e R s m sargs below meth c A.U A.locs A.cells A.slots → g.method = m → g.locals.size = c.maxLocals → decode c.code g.pc = .ok (ig, len) →
    2 * g.monitorRoom + (g.stack.map fun v => v.category).sum ≤ W9 → A.U.methodNamed? y = some mk → Pre A a →
    (∃ (v : Option Value) (B : Pt), Stand p l e R s m sargs below meth c B.U B.locs B.cells B.slots ∧ Post A a v B ∧
      Steps p.tables e below (doInvoke e (A.U.setTop g) [] mk a).1 (B.U.setTop { g with pc := g.pc + len, stack := v.toList ++ g.stack })) ∨
    (∃ (q : Addr) (B : Pt), Stand p l e R s m sargs below meth c B.U B.locs B.cells B.slots ∧ PostX A a q B ∧
      Steps p.tables e below (doInvoke e (A.U.setTop g) [] mk a).1 ((B.U.setTop g).pushFrame (.throwing q)))
section Payer
variable {l : Launch} {R : Room} {p : Program} {e : Env} {below : List Frame} {s : State} {sargs : Array Value} {y : MethodName} {len W9 : Nat}
theorem vx_back {ws : List Cond} {rm : Room} {Pc : Array Value → State → Prop} {Qc : Array Value → State → Outcome → State → Prop} {XC : String → State → State → Prop} {mc ms : Nat} {free : Addr → Prop} {bytes : ByteArray} {maxL : Nat} {ret : Option FieldType}
    (hM : vx_Met l y ws rm Pc Qc XC mc ms free) (hblind : FrameBlind Pc) (hrc : rm.cells = mc) (hrs : rm.slots = ms)
    (hframes : rm.frames + 1 ≤ R.frames) (hlocals : W9 + (maxL + 11) + rm.locals ≤ R.locals)
    (hws : ∀ w ∈ ws, ∀ a' U, s.WarmedH U.vm → w.before a' U = true) (hcode : Cond.code y bytes maxL ret ∈ ws) (hinit : ∀ a' U, s.WarmedH U.vm → (Cond.initialized y.cls).before a' U = true) :
    vx_Back l R p e below s sargs y len W9 (PreOf R mc ms Pc) (PostOf Qc mc ms free) (vx_Post XC mc ms free) := by
  intro m meth c A g ig mk a X hg hsize hdg hW hn hp
  have h1 : (headSpec ws rm).pre.before a A.U = true := atoms_intro fun w hw => hws w hw _ _ X.warmed
  have h2 : (Cond.code y bytes maxL ret).before a A.U = true := hws _ hcode _ _ X.warmed
  have h3 : (Cond.initialized y.cls).before a A.U = true := hinit _ _ X.warmed
  have h4 : A.cells + (headSpec ws rm).room.cells ≤ R.cells := by rw [show (headSpec ws rm).room.cells = mc from hrc]; exact hp.1
  have h5 : A.slots + (headSpec ws rm).room.slots ≤ R.slots := by rw [show (headSpec ws rm).room.slots = ms from hrs]; exact hp.2.1
  have hPc : Pc a (A.U.calling g mk a) := hblind _ _ _ _ hp.2.2
  obtain ⟨U, Ls, c0, s0⟩ := A
  dsimp only [Pt.U, Pt.locs, Pt.cells, Pt.slots] at h1 h2 h3 h4 h5 X hn hPc ⊢
  obtain ⟨methY, cY, hmY, hcY, -, hlY, -, -, -, -⟩ := Cond.code_spec hn h2
  obtain ⟨kY, hkY, -⟩ := className_of_methodNamed hn
  have hinitY : kY.init = .initialized := Cond.initialized_spec (findClass_of_methodNamed hn) hkY h3
  have h : At U g.method c below := by rw [hg]; exact X.here
  have hlocals9 : W9 + (maxL + 11) + (headSpec ws rm).room.locals ≤ R.locals := hlocals
  have happ : (headSpec ws rm).appliesLoose y e.platform (U.calling g mk a) = true :=
    Spec.appliesLoose_calling (g := g) h hdg hn hkY hinitY
      (X.room_calling (g := g) (R' := (headSpec ws rm).room) hsize hmY hcY hframes (by rw [hlY]; omega) h4 h5) h1
  obtain ⟨mid, hmid⟩ := h.above
  have hfr : (U.setTop g).frames = (.java g :: mid) ++ below := by rw [State.frames_setTop' g h.top, hmid]; rfl
  obtain ⟨o, s₂, hsteps, -, hend, hq⟩ := Steps.callFree hM p X.admits X.cas X.clock (acts := []) hfr happ hPc trivial
  have hq' : vx_Q Qc XC mc ms free a (U.calling g mk a) o s₂ := hq
  rw [State.frames_setTop' g h.top] at hend
  obtain ⟨g₀, hg0⟩ := Option.isSome_iff_exists.mp h.top
  obtain ⟨r, hr⟩ := State.topJava?_eq_some.mp hg0
  have hr' : (({ U with heap := s₂.heap, slotsUsed := s₂.slotsUsed } : State).setVm s₂.vm).frames = .java g₀ :: r := hr
  rcases hq' with ⟨hqc, L, hfe, hL⟩ | ⟨q, rfl, E, ce, L, hx, hce, hcv, hcl, hW₂, hsm, hL⟩
  · obtain ⟨⟨v, rfl⟩, hW₂, e2, q2, q3, q4, q5, q6⟩ := id hfe
    have e3 : s₂ = ({ (U.calling g mk a).setFrames s₂.frames with heap := s₂.heap, slotsUsed := s₂.slotsUsed } : State).setVm s₂.vm := by
      have : s₂ = ({ s₂ with vm := (U.calling g mk a).vm } : State).setVm s₂.vm := rfl
      rw [e2] at this
      exact this
    obtain ⟨c₂, i₂, len₂, hc₂, hd₂, hf₂⟩ := hend
    have hW' : U.WarmedH s₂.vm := hW₂
    have hcc : c₂ = c := by
      have h1 : s₂.code? g.method = U.code? g.method := by
        rw [State.code?_eq, State.code?_eq, hW'.alike.method?]
      exact Option.some.inj (hc₂.symm.trans (h1.trans h.code))
    subst hcc
    have hlen : len₂ = len := by rw [hdg] at hd₂; cases hd₂; rfl
    subst hlen
    have hs₂ : s₂ = (({ U with heap := s₂.heap, slotsUsed := s₂.slotsUsed } : State).setVm s₂.vm).setTop { g with pc := g.pc + len₂, stack := v.toList ++ g.stack } := by
      refine e3.trans ?_
      rw [hf₂, State.calling_eq h.top, State.setFrames_setFrames, State.setTop_of_frames _ hr', hr]
      rfl
    have hsame : U.sameButNew ({ U with heap := s₂.heap, slotsUsed := s₂.slotsUsed } : State) L mc ms := by
      refine ⟨?_, q2, q3, q4, q5, q6⟩
      obtain ⟨t, ht, -⟩ := State.frames_cons hr
      show ({ U with heap := s₂.heap, slotsUsed := s₂.slotsUsed } : State) = { U.setFrames U.frames with heap := s₂.heap, slotsUsed := s₂.slotsUsed }
      rw [State.setFrames_self ht]
    subst hg
    refine Or.inl ⟨v, ⟨(({ U with heap := s₂.heap, slotsUsed := s₂.slotsUsed } : State).setVm s₂.vm), Ls ++ L, c0 + mc, s0 + ms⟩,
      ⟨X.admits, X.cas, X.clock, X.frames, X.room, X.hears, X.method, X.code, (X.here.setHeapUsed s₂.heap s₂.slotsUsed).setVm hW'.alike, X.tail, State.WarmedH.trans X.warmed hW', X.limits, X.bytes, X.same.trans (hsame.setVm s.vm)⟩,
      ⟨g, mk, s₂, L, rfl, rfl, hqc, rfl, hL, rfl, rfl⟩, ?_⟩
    show Steps p.tables e below _ ((({ U with heap := s₂.heap, slotsUsed := s₂.slotsUsed } : State).setVm s₂.vm).setTop { g with pc := g.pc + len₂, stack := v.toList ++ g.stack })
    rw [← hs₂]
    exact hsteps
  · obtain ⟨e2, q2, q3, q4, q5, q6⟩ := id hsm
    have e3 : s₂ = ({ (U.calling g mk a).setFrames s₂.frames with heap := s₂.heap, slotsUsed := s₂.slotsUsed } : State).setVm s₂.vm := by
      have : s₂ = ({ s₂ with vm := (U.calling g mk a).vm } : State).setVm s₂.vm := rfl
      rw [e2] at this
      exact this
    have hf₂ : s₂.frames = .throwing q :: .java g :: U.frames.tail := hend
    have hW' : U.WarmedH s₂.vm := hW₂
    have hs₂ : s₂ = ((({ U with heap := s₂.heap, slotsUsed := s₂.slotsUsed } : State).setVm s₂.vm).setTop g).pushFrame (.throwing q) := by
      refine e3.trans ?_
      rw [hf₂, State.calling_eq h.top, State.setFrames_setFrames, State.pushFrame, State.frames_setTop _ hr', State.setTop_of_frames _ hr', State.setFrames_setFrames, hr]
      rfl
    have hsame : U.sameButNew ({ U with heap := s₂.heap, slotsUsed := s₂.slotsUsed } : State) L mc ms := by
      refine ⟨?_, q2, q3, q4, q5, q6⟩
      obtain ⟨t, ht, -⟩ := State.frames_cons hr
      show ({ U with heap := s₂.heap, slotsUsed := s₂.slotsUsed } : State) = { U.setFrames U.frames with heap := s₂.heap, slotsUsed := s₂.slotsUsed }
      rw [State.setFrames_self ht]
    subst hg
    refine Or.inr ⟨q, ⟨(({ U with heap := s₂.heap, slotsUsed := s₂.slotsUsed } : State).setVm s₂.vm), Ls ++ L, c0 + mc, s0 + ms⟩,
      ⟨X.admits, X.cas, X.clock, X.frames, X.room, X.hears, X.method, X.code, (X.here.setHeapUsed s₂.heap s₂.slotsUsed).setVm hW'.alike, X.tail, State.WarmedH.trans X.warmed hW', X.limits, X.bytes, X.same.trans (hsame.setVm s.vm)⟩,
      ⟨g, mk, s₂, L, E, ce, rfl, rfl, hx, hce, hcv, hcl, rfl, hL, rfl, rfl⟩, ?_⟩
    show Steps p.tables e below _ (((({ U with heap := s₂.heap, slotsUsed := s₂.slotsUsed } : State).setVm s₂.vm).setTop g).pushFrame (.throwing q))
    rw [← hs₂]
    exact hsteps
end Payer
section Calls
variable {p : Program} {l : Launch} {e : Env} {R : Room} {s : State} {m : MethodId} {args : Array Value} {below : List Frame} {meth : Method} {c : Code} {T : State} {locs : List Loc} {cells slots : Nat}
theorem vx_callV (X : Stand p l e R s m args below meth c T locs cells slots) (hexec : p.tables.exec = Jvm.exec) {own C : String} {index : Nat} {y : MethodName} {bytes : ByteArray} {maxL : Nat} {ret : Option FieldType}
    (hown : s.vm.findClass own = some m.cls) (hlink : (Cond.methodLink own index y).before args s = true) (hinst : (Cond.instanceMethod y).before args s = true) (hsel : (Cond.selects C y y).before args s = true)
    (hcode : (Cond.code y bytes maxL ret).before args s = true) (hy : y.cls ≠ "java/lang/invoke/MethodHandle" ∧ y.cls ≠ "java/lang/invoke/VarHandle")
    {W9 : Nat} {Pre : Pt → Array Value → Prop} {Post : Pt → Array Value → Option Value → Pt → Prop} {PostX : Pt → Array Value → Addr → Pt → Prop} (hK : vx_Back l R p e below s args y 3 W9 Pre Post PostX)
    {b : Addr} {cellB : Cell} (hcell : T.heap[b]? = some cellB) (hobj : cellB.vm.isStatics = false) (hcls : s.vm.findClass C = some cellB.cls)
    {g : JFrame} (hg : g.method = m) (hsize : g.locals.size = c.maxLocals) {argsL rest : List Value} (hlen : ∀ sig, parseMethodDescriptor y.desc = some sig → argsL.length = sig.parameters.length)
    (hstack : g.stack = argsL.reverse ++ .ref b :: rest) (hW : 2 * g.monitorRoom + (rest.map fun v => v.category).sum ≤ W9) (hdg : decode c.code g.pc = .ok (.invokevirtual index, 3))
    (hpre : ∀ vm₁, s.WarmedH vm₁ → Pre ⟨T.setVm vm₁, locs, cells, slots⟩ (Value.ref b :: argsL).toArray) :
    (∃ (v : Option Value) (vm₁ : Vm) (B : Pt), s.WarmedH vm₁ ∧ Stand p l e R s m args below meth c B.U B.locs B.cells B.slots ∧ Post ⟨T.setVm vm₁, locs, cells, slots⟩ (Value.ref b :: argsL).toArray v B ∧
      ∀ target, Steps p.tables e below (B.U.setTop { g with pc := g.pc + 3, stack := v.toList ++ rest }) target → Steps p.tables e below (T.setTop g) target) ∨
    (∃ (q : Addr) (vm₁ : Vm) (B : Pt), s.WarmedH vm₁ ∧ Stand p l e R s m args below meth c B.U B.locs B.cells B.slots ∧ PostX ⟨T.setVm vm₁, locs, cells, slots⟩ (Value.ref b :: argsL).toArray q B ∧
      Steps p.tables e below (T.setTop g) ((B.U.setTop { g with stack := rest }).pushFrame (.throwing q))) := by
  obtain ⟨mk, methM, hnamed, hmethM, hstM, habM⟩ := Cond.instanceMethod_spec hinst
  obtain ⟨methM', cM, hmethM', -, -, -, -, -, -, hsigM⟩ := Cond.code_spec hnamed hcode
  cases hmethM.symm.trans hmethM'
  obtain ⟨c2, r2, m2, q1, q2, q3, q4, kP, hkP, hkPi⟩ := Cond.selects_spec hsel
  cases hcls.symm.trans q1
  cases (State.methodFound?_of_named hnamed hy).symm.trans q2
  cases hnamed.symm.trans q3
  have hselP : selectMethod e.platform s.vm cellB.cls mk = .method mk := by rw [Launch.admits_selectMethod X.admits]; exact q4
  obtain ⟨vm₁, X₁, hstep₁⟩ := X.invokevirtual hexec hown hlink hnamed hmethM hstM hkP hkPi hy (a := b) (cell := cellB) hcell
    (fun z h => by rw [h] at hobj; cases hobj) hselP hmethM habM hkP hkPi (g := g) hg (argsL := argsL) (rest := rest) (hlen _ hsigM) hstack hdg
  rcases hK m meth c ⟨T.setVm vm₁, locs, cells, slots⟩ { g with stack := rest } (.invokevirtual index) mk (Value.ref b :: argsL).toArray X₁ hg hsize hdg hW (X₁.named hnamed) (hpre vm₁ X₁.warmed) with ⟨v, B, X', hpost, hsteps⟩ | ⟨q, B, X', hpost, hsteps⟩
  · exact Or.inl ⟨v, vm₁, B, X₁.warmed, X', hpost, fun target h => hstep₁ _ fun acts => by rw [doInvoke_state]; exact hsteps.trans h⟩
  · exact Or.inr ⟨q, vm₁, B, X₁.warmed, X', hpost, hstep₁ _ fun acts => by rw [doInvoke_state]; exact hsteps⟩
theorem vx_callS (X : Stand p l e R s m args below meth c T locs cells slots) (hexec : p.tables.exec = Jvm.exec) {own : String} {index : Nat} {y : MethodName} {bytes : ByteArray} {maxL : Nat} {ret : Option FieldType}
    (hown : s.vm.findClass own = some m.cls) (hlink : (Cond.methodLink own index y).before args s = true) (hstat : (Cond.static y).before args s = true) (hinit : (Cond.initialized y.cls).before args s = true)
    (hcode : (Cond.code y bytes maxL ret).before args s = true) (hy : y.cls ≠ "java/lang/invoke/MethodHandle" ∧ y.cls ≠ "java/lang/invoke/VarHandle")
    {W9 : Nat} {Pre : Pt → Array Value → Prop} {Post : Pt → Array Value → Option Value → Pt → Prop} {PostX : Pt → Array Value → Addr → Pt → Prop} (hK : vx_Back l R p e below s args y 3 W9 Pre Post PostX)
    {g : JFrame} (hg : g.method = m) (hsize : g.locals.size = c.maxLocals) {argsL rest : List Value} (hlen : ∀ sig, parseMethodDescriptor y.desc = some sig → argsL.length = sig.parameters.length)
    (hstack : g.stack = argsL.reverse ++ rest) (hW : 2 * g.monitorRoom + (rest.map fun v => v.category).sum ≤ W9) (hdg : decode c.code g.pc = .ok (.invokestatic index, 3))
    (hpre : ∀ vm₁, s.WarmedH vm₁ → Pre ⟨T.setVm vm₁, locs, cells, slots⟩ argsL.toArray) :
    (∃ (v : Option Value) (vm₁ : Vm) (B : Pt), s.WarmedH vm₁ ∧ Stand p l e R s m args below meth c B.U B.locs B.cells B.slots ∧ Post ⟨T.setVm vm₁, locs, cells, slots⟩ argsL.toArray v B ∧
      ∀ target, Steps p.tables e below (B.U.setTop { g with pc := g.pc + 3, stack := v.toList ++ rest }) target → Steps p.tables e below (T.setTop g) target) ∨
    (∃ (q : Addr) (vm₁ : Vm) (B : Pt), s.WarmedH vm₁ ∧ Stand p l e R s m args below meth c B.U B.locs B.cells B.slots ∧ PostX ⟨T.setVm vm₁, locs, cells, slots⟩ argsL.toArray q B ∧
      Steps p.tables e below (T.setTop g) ((B.U.setTop { g with stack := rest }).pushFrame (.throwing q))) := by
  obtain ⟨mk, hnamed⟩ := Cond.code_named hcode
  obtain ⟨methM, cM, hmethM, -, -, -, -, -, -, hsigM⟩ := Cond.code_spec hnamed hcode
  have hstatic : methM.isStatic = true := Cond.static_spec hnamed hmethM hstat
  obtain ⟨kP, hkP, -⟩ := className_of_methodNamed hnamed
  have hinitP : kP.init = .initialized := Cond.initialized_spec (findClass_of_methodNamed hnamed) hkP hinit
  obtain ⟨vm₁, X₁, hstep₁⟩ := X.invokestatic hexec hown hlink hnamed hmethM hstatic hkP hinitP hy (g := g) hg (argsL := argsL) (rest := rest) (hlen _ hsigM) hstack hdg
  rcases hK m meth c ⟨T.setVm vm₁, locs, cells, slots⟩ { g with stack := rest } (.invokestatic index) mk argsL.toArray X₁ hg hsize hdg hW (X₁.named hnamed) (hpre vm₁ X₁.warmed) with ⟨v, B, X', hpost, hsteps⟩ | ⟨q, B, X', hpost, hsteps⟩
  · exact Or.inl ⟨v, vm₁, B, X₁.warmed, X', hpost, fun target h => hstep₁ _ fun acts => by rw [doInvoke_state]; exact hsteps.trans h⟩
  · exact Or.inr ⟨q, vm₁, B, X₁.warmed, X', hpost, hstep₁ _ fun acts => by rw [doInvoke_state]; exact hsteps⟩
end Calls
theorem vx_cls {s : State} {T : State} {vm₁ : Vm} {E : String} {k : ClassId} (hW : s.WarmedH vm₁) (h : (T.setVm vm₁).vm.findClass E = some k) : s.vm.findClass E = some k := by
  have h1 : vm₁.findClass E = some k := h
  rw [hW.alike.findClass] at h1
  exact h1
/-- the method's frame g, with q thrown over it -/
def vx_W (p : Program) (l : Launch) (e : Env) (R : Room) (s : State) (m : MethodId) (args : Array Value) (below : List Frame) (meth : Method) (c : Code) (H : Heap) (locs : List Loc) (cells slots : Nat) (Q : State → Prop) (g : JFrame) (q : Addr) : Prop :=
  ∀ T : State, T.heap = H → Stand p l e R s m args below meth c T locs cells slots → ∃ t, Steps p.tables e below ((T.setTop g).pushFrame (.throwing q)) t ∧ Q t
def vx_Run (p : Program) (l : Launch) (e : Env) (R : Room) (s : State) (m : MethodId) (args : Array Value) (below : List Frame) (meth : Method) (c : Code) (H : Heap) (locs : List Loc) (cells slots mc ms : Nat) (g : JFrame) (rest : List Value) (Qa : State → Outcome → State → Prop) (XC : String → State → State → Prop) (free : Addr → Prop) : Prop :=
  ∀ T : State, T.heap = H → Stand p l e R s m args below meth c T locs cells slots →
    (∃ (v : Option Value) (st₀ t T' : State) (L : List Loc), st₀.heap = H ∧ Stand p l e R s m args below meth c T' (locs ++ L) (cells + mc) (slots + ms) ∧ (∀ q ∈ L, free q.base) ∧ T'.heap = t.heap ∧ T'.vm = t.vm ∧ Qa st₀ (.returned v) t ∧
      Goes p e below T g T' { g with pc := g.pc + 3, stack := v.toList ++ rest }) ∨
    (∃ (q : Addr) (st₀ t T' : State) (L : List Loc) (E : String) (ce : Cell), st₀.heap = H ∧ Stand p l e R s m args below meth c T' (locs ++ L) (cells + mc) (slots + ms) ∧ (∀ z ∈ L, free z.base) ∧ T'.heap = t.heap ∧ T'.vm = t.vm ∧ XC E st₀ t ∧ t.heap[q]? = some ce ∧ ce.vm = .none ∧ s.vm.findClass E = some ce.cls ∧
      Steps p.tables e below (T.setTop g) ((T'.setTop { g with stack := rest }).pushFrame (.throwing q)))
def vx_X {S : Type} (px : S → Prop) (B : String → S → State → Prop) (A : Nat → Prop) : String → State → State → Prop := fun E st t => ∃ u : S, px u ∧ B E u t ∧ va_F A st t
section Runs
variable {p : Program} {l : Launch} {e : Env} {R : Room} {s : State} {m : MethodId} {args : Array Value} {below : List Frame} {meth : Method} {c : Code} {H : Heap} {locs : List Loc} {cells slots : Nat}
variable {y : MethodName} {bytes cc : ByteArray} {maxL nL mc ms n index : Nat} {ret : Option FieldType} {ws : List Cond} {rm : Room} {Pc : Array Value → State → Prop} {Qc : Array Value → State → Outcome → State → Prop} {XC : String → State → State → Prop} {free : Addr → Prop} {Ts : List Cond} {own C : String} {b : Addr} {As rest : List Value} {g : JFrame}
theorem vx_callBack (cb : CallB R s args own index y bytes maxL ret ws rm mc ms n) (hM : vx_Met l y ws rm Pc Qc XC mc ms free) (hbl : FrameBlind Pc) : vx_Back l R p e below s args y 3 8 (PreOf R mc ms Pc) (PostOf Qc mc ms free) (vx_Post XC mc ms free) := by
  obtain ⟨hrc, hrs, hfr, hlo, hws, hcw, -, hini, -⟩ := cb
  exact vx_back (bytes := bytes) (maxL := maxL) (ret := ret) hM hbl hrc hrs hfr hlo hws hcw (fun a' U hW => word_at hW (Or.inl (by first | rfl | simp [Cond.onTables, Cond.keeps, Cond.steady])) hini)
theorem vx_runV (S : CallFix p m c cc nL s args Ts own) (hM : vx_Met l y ws rm Pc Qc XC mc ms free) (cw : CallW R s args own C index y bytes maxL ret ws rm mc ms n) (hp : PreV s H C b Pc As)
    (hg : g.method = m) (hn : As.length = n) (hsize : g.locals.size = nL) (hstack : g.stack = As.reverse ++ .ref b :: rest) (hW : 2 * g.monitorRoom + (rest.map fun v => v.category).sum ≤ 8) (hdg : decode cc g.pc = .ok (.invokevirtual index, 3)) (hf : cells + mc ≤ R.cells ∧ slots + ms ≤ R.slots) :
    vx_Run p l e R s m args below meth c H locs cells slots mc ms g rest (Qc (Value.ref b :: As).toArray) XC free := by
  have hK : vx_Back l R p e below s args y 3 8 (PreOf R mc ms Pc) (PostOf Qc mc ms free) (vx_Post XC mc ms free) := vx_callBack cw.1 hM hp.1
  obtain ⟨⟨-, -, -, -, -, -, hcode, -, hy, hlen, hl⟩, hin, hse⟩ := cw
  obtain ⟨hx, hb, hml, ho, -⟩ := S
  obtain ⟨-, ⟨cellB, hcB, hoB, hclB⟩, hPc⟩ := hp
  intro T hT X
  rcases vx_callV X hx (C := C) (bytes := bytes) (maxL := maxL) (ret := ret) ho hl hin hse hcode hy hK (by rw [hT]; exact hcB) hoB hclB hg (hsize.trans hml.symm) (argsL := As) (rest := rest) (fun sig h => hn.trans (hlen sig h)) hstack hW (by rw [hb]; exact hdg)
    (fun vm₁ hW₁ => ⟨hf.1, hf.2, hPc (T.setVm vm₁) hT hW₁⟩) with ⟨v, vm₁, ⟨U', l2, c2, s2⟩, hW₁, X', ⟨g', mk, t, L, e1, e2, hq, h1, hL, h2, h3⟩, st⟩ | ⟨q, vm₁, ⟨U', l2, c2, s2⟩, hW₁, X', ⟨g', mk, t, L, E, ce, e1, e2, hq, hce, hcv, hcl, h1, hL, h2, h3⟩, st⟩
  · dsimp only [Pt.U, Pt.locs, Pt.cells, Pt.slots] at X' e1 e2 h1 h2 h3 st
    subst h1; subst h2; subst h3
    exact Or.inl ⟨v, (T.setVm vm₁).calling g' mk (Value.ref b :: As).toArray, t, U', L, hT, X', hL, e1, e2, hq, st⟩
  · dsimp only [Pt.U, Pt.locs, Pt.cells, Pt.slots] at X' e1 e2 h1 h2 h3 st hcl
    subst h1; subst h2; subst h3
    exact Or.inr ⟨q, (T.setVm vm₁).calling g' mk (Value.ref b :: As).toArray, t, U', L, E, ce, hT, X', hL, e1, e2, hq, hce, hcv, vx_cls hW₁ hcl, st⟩
theorem vx_runS (S : CallFix p m c cc nL s args Ts own) (hM : vx_Met l y ws rm Pc Qc XC mc ms free) (cw : CallB R s args own index y bytes maxL ret ws rm mc ms n ∧ (Cond.static y).before args s = true) (hp : PreS s H Pc As)
    (hg : g.method = m) (hn : As.length = n) (hsize : g.locals.size = nL) (hstack : g.stack = As.reverse ++ rest) (hW : 2 * g.monitorRoom + (rest.map fun v => v.category).sum ≤ 8) (hdg : decode cc g.pc = .ok (.invokestatic index, 3)) (hf : cells + mc ≤ R.cells ∧ slots + ms ≤ R.slots) :
    vx_Run p l e R s m args below meth c H locs cells slots mc ms g rest (Qc As.toArray) XC free := by
  have hK : vx_Back l R p e below s args y 3 8 (PreOf R mc ms Pc) (PostOf Qc mc ms free) (vx_Post XC mc ms free) := vx_callBack cw.1 hM hp.1
  obtain ⟨⟨-, -, -, -, -, -, hcode, hini, hy, hlen, hl⟩, hstt⟩ := cw
  obtain ⟨hx, hb, hml, ho, -⟩ := S
  intro T hT X
  rcases vx_callS X hx (bytes := bytes) (maxL := maxL) (ret := ret) ho hl hstt hini hcode hy hK hg (hsize.trans hml.symm) (argsL := As) (rest := rest) (fun sig h => hn.trans (hlen sig h)) hstack hW (by rw [hb]; exact hdg)
    (fun vm₁ hW₁ => ⟨hf.1, hf.2, hp.2 (T.setVm vm₁) hT hW₁⟩) with ⟨v, vm₁, ⟨U', l2, c2, s2⟩, hW₁, X', ⟨g', mk, t, L, e1, e2, hq, h1, hL, h2, h3⟩, st⟩ | ⟨q, vm₁, ⟨U', l2, c2, s2⟩, hW₁, X', ⟨g', mk, t, L, E, ce, e1, e2, hq, hce, hcv, hcl, h1, hL, h2, h3⟩, st⟩
  · dsimp only [Pt.U, Pt.locs, Pt.cells, Pt.slots] at X' e1 e2 h1 h2 h3 st
    subst h1; subst h2; subst h3
    exact Or.inl ⟨v, (T.setVm vm₁).calling g' mk As.toArray, t, U', L, hT, X', hL, e1, e2, hq, st⟩
  · dsimp only [Pt.U, Pt.locs, Pt.cells, Pt.slots] at X' e1 e2 h1 h2 h3 st hcl
    subst h1; subst h2; subst h3
    exact Or.inr ⟨q, (T.setVm vm₁).calling g' mk As.toArray, t, U', L, E, ce, hT, X', hL, e1, e2, hq, hce, hcv, vx_cls hW₁ hcl, st⟩
end Runs
section Rows
variable {p : Program} {l : Launch} {e : Env} {R : Room} {s : State} {m : MethodId} {args : Array Value} {below : List Frame} {meth : Method} {c : Code} {H : Heap} {locs : List Loc} {cells slots : Nat} {Q : State → Prop}
variable {mc ms : Nat} {free : Addr → Prop} {A0 A1 : Nat → Prop} {H0 : Heap} {a : Array Value} {pc : Nat} {ls : Array Slot} {st0 rest : List Value}
theorem vx_keep {st₀ t T' : State} {L : List Loc} (h0 : st₀.heap = H) (e1 : T'.heap = t.heap) (hS : va_S A0 H0 H locs) (hA : ∀ q, q < H.size → A1 q → A0 q) (hf : ∀ q, free q → A0 q) (hL : ∀ q ∈ L, free q.base) (hF : va_F A1 st₀ t) :
    H.size ≤ T'.heap.size ∧ (∀ q : Nat, q < H.size → ¬ A1 q → T'.heap[q]? = H[q]?) ∧ va_S A0 H0 T'.heap (locs ++ L) := by
  obtain ⟨hz, hk⟩ := hF
  rw [h0] at hz hk
  exact ⟨by rw [e1]; exact hz, fun q h1 h2 => by rw [e1]; exact hk q h1 h2,
    ⟨Nat.le_trans hS.1 (by rw [e1]; exact hz), fun q h1 h2 => by rw [e1, hk q (Nat.lt_of_lt_of_le h1 hS.1) (fun z => h2 (hA q (Nat.lt_of_lt_of_le h1 hS.1) z))]; exact hS.2.1 q h1 h2, fun q hq => by
      rcases List.mem_append.mp hq with h | h
      · exact hS.2.2 q h
      · exact hf _ (hL q h)⟩⟩
theorem vx_calli {S SX : Type} {post : Int32 → S → Prop} {px : SX → Prop} {B : S → State → Prop} {BX : String → SX → State → Prop} {AX : Nat → Prop} (hr : vx_Run p l e R s m args below meth c H locs cells slots mc ms (F0 m pc ls st0) rest (va_Qi post B A1 a) (vx_X px BX AX) free) (hS : va_S A0 H0 H locs) (hA : ∀ q, q < H.size → A1 q → A0 q) (hf : ∀ q, free q → A0 q) (hAX : ∀ q, q < H.size → AX q → A0 q)
    (kx : ∀ (E : String) (ce : Cell) (q9 : Addr) (u : SX) (t : State) (H1 : Heap) (locs1 : List Loc), t.heap = H1 → s.vm.Alike t.vm → px u → BX E u t → H.size ≤ H1.size → (∀ q : Nat, q < H.size → ¬ AX q → H1[q]? = H[q]?) → va_S A0 H0 H1 locs1 → H1[q9]? = some ce → ce.vm = .none → s.vm.findClass E = some ce.cls → vx_W p l e R s m args below meth c H1 locs1 (cells + mc) (slots + ms) Q (F0 m pc ls rest) q9)
    (kk : ∀ (r : Int32) (u : S) (t : State) (H1 : Heap) (locs1 : List Loc), t.heap = H1 → s.vm.Alike t.vm → post r u → B u t → H.size ≤ H1.size → (∀ q : Nat, q < H.size → ¬ A1 q → H1[q]? = H[q]?) → va_S A0 H0 H1 locs1 → W p l e R s m args below meth c H1 locs1 (cells + mc) (slots + ms) Q (F0 m (pc + 3) ls (.int r :: rest))) : W p l e R s m args below meth c H locs cells slots Q (F0 m pc ls st0) := by
  intro T hT X
  rcases hr T hT X with ⟨v, st₀, t, T', L, h0, X', hL, e1, e2, ⟨⟨r, u, hv, hp, hb⟩, hF⟩, st⟩ | ⟨q, st₀, t, T', L, E, ce, h0, X', hL, e1, e2, ⟨u, hp, hb, hF⟩, hce, hcv, hcl, st⟩
  · cases hv
    obtain ⟨k1, k2, k3⟩ := vx_keep h0 e1 hS hA hf hL hF
    obtain ⟨t2, a1, b1⟩ := kk r u t T'.heap (locs ++ L) e1.symm (by rw [← e2]; exact X'.warmed.alike) hp hb k1 k2 k3 T' rfl X'
    exact ⟨t2, st t2 a1, b1⟩
  · obtain ⟨k1, k2, k3⟩ := vx_keep h0 e1 hS hAX hf hL hF
    obtain ⟨t2, a1, b1⟩ := kx E ce q u t T'.heap (locs ++ L) e1.symm (by rw [← e2]; exact X'.warmed.alike) hp hb k1 k2 k3 (by rw [e1]; exact hce) hcv hcl T' rfl X'
    exact ⟨t2, st.trans a1, b1⟩
theorem vx_calll {S SX : Type} {post : Int64 → S → Prop} {px : SX → Prop} {B : S → State → Prop} {BX : String → SX → State → Prop} {AX : Nat → Prop} (hr : vx_Run p l e R s m args below meth c H locs cells slots mc ms (F0 m pc ls st0) rest (va_Ql post B A1 a) (vx_X px BX AX) free) (hS : va_S A0 H0 H locs) (hA : ∀ q, q < H.size → A1 q → A0 q) (hf : ∀ q, free q → A0 q) (hAX : ∀ q, q < H.size → AX q → A0 q)
    (kx : ∀ (E : String) (ce : Cell) (q9 : Addr) (u : SX) (t : State) (H1 : Heap) (locs1 : List Loc), t.heap = H1 → s.vm.Alike t.vm → px u → BX E u t → H.size ≤ H1.size → (∀ q : Nat, q < H.size → ¬ AX q → H1[q]? = H[q]?) → va_S A0 H0 H1 locs1 → H1[q9]? = some ce → ce.vm = .none → s.vm.findClass E = some ce.cls → vx_W p l e R s m args below meth c H1 locs1 (cells + mc) (slots + ms) Q (F0 m pc ls rest) q9)
    (kk : ∀ (r : Int64) (u : S) (t : State) (H1 : Heap) (locs1 : List Loc), t.heap = H1 → s.vm.Alike t.vm → post r u → B u t → H.size ≤ H1.size → (∀ q : Nat, q < H.size → ¬ A1 q → H1[q]? = H[q]?) → va_S A0 H0 H1 locs1 → W p l e R s m args below meth c H1 locs1 (cells + mc) (slots + ms) Q (F0 m (pc + 3) ls (.long r :: rest))) : W p l e R s m args below meth c H locs cells slots Q (F0 m pc ls st0) := by
  intro T hT X
  rcases hr T hT X with ⟨v, st₀, t, T', L, h0, X', hL, e1, e2, ⟨⟨r, u, hv, hp, hb⟩, hF⟩, st⟩ | ⟨q, st₀, t, T', L, E, ce, h0, X', hL, e1, e2, ⟨u, hp, hb, hF⟩, hce, hcv, hcl, st⟩
  · cases hv
    obtain ⟨k1, k2, k3⟩ := vx_keep h0 e1 hS hA hf hL hF
    obtain ⟨t2, a1, b1⟩ := kk r u t T'.heap (locs ++ L) e1.symm (by rw [← e2]; exact X'.warmed.alike) hp hb k1 k2 k3 T' rfl X'
    exact ⟨t2, st t2 a1, b1⟩
  · obtain ⟨k1, k2, k3⟩ := vx_keep h0 e1 hS hAX hf hL hF
    obtain ⟨t2, a1, b1⟩ := kx E ce q u t T'.heap (locs ++ L) e1.symm (by rw [← e2]; exact X'.warmed.alike) hp hb k1 k2 k3 (by rw [e1]; exact hce) hcv hcl T' rfl X'
    exact ⟨t2, st.trans a1, b1⟩
theorem vx_callf {S SX : Type} {post : UInt32 → S → Prop} {px : SX → Prop} {B : S → State → Prop} {BX : String → SX → State → Prop} {AX : Nat → Prop} (hr : vx_Run p l e R s m args below meth c H locs cells slots mc ms (F0 m pc ls st0) rest (va_Qf post B A1 a) (vx_X px BX AX) free) (hS : va_S A0 H0 H locs) (hA : ∀ q, q < H.size → A1 q → A0 q) (hf : ∀ q, free q → A0 q) (hAX : ∀ q, q < H.size → AX q → A0 q)
    (kx : ∀ (E : String) (ce : Cell) (q9 : Addr) (u : SX) (t : State) (H1 : Heap) (locs1 : List Loc), t.heap = H1 → s.vm.Alike t.vm → px u → BX E u t → H.size ≤ H1.size → (∀ q : Nat, q < H.size → ¬ AX q → H1[q]? = H[q]?) → va_S A0 H0 H1 locs1 → H1[q9]? = some ce → ce.vm = .none → s.vm.findClass E = some ce.cls → vx_W p l e R s m args below meth c H1 locs1 (cells + mc) (slots + ms) Q (F0 m pc ls rest) q9)
    (kk : ∀ (r : UInt32) (u : S) (t : State) (H1 : Heap) (locs1 : List Loc), t.heap = H1 → s.vm.Alike t.vm → post r u → B u t → H.size ≤ H1.size → (∀ q : Nat, q < H.size → ¬ A1 q → H1[q]? = H[q]?) → va_S A0 H0 H1 locs1 → W p l e R s m args below meth c H1 locs1 (cells + mc) (slots + ms) Q (F0 m (pc + 3) ls (.float r :: rest))) : W p l e R s m args below meth c H locs cells slots Q (F0 m pc ls st0) := by
  intro T hT X
  rcases hr T hT X with ⟨v, st₀, t, T', L, h0, X', hL, e1, e2, ⟨⟨r, u, hv, hp, hb⟩, hF⟩, st⟩ | ⟨q, st₀, t, T', L, E, ce, h0, X', hL, e1, e2, ⟨u, hp, hb, hF⟩, hce, hcv, hcl, st⟩
  · cases hv
    obtain ⟨k1, k2, k3⟩ := vx_keep h0 e1 hS hA hf hL hF
    obtain ⟨t2, a1, b1⟩ := kk r u t T'.heap (locs ++ L) e1.symm (by rw [← e2]; exact X'.warmed.alike) hp hb k1 k2 k3 T' rfl X'
    exact ⟨t2, st t2 a1, b1⟩
  · obtain ⟨k1, k2, k3⟩ := vx_keep h0 e1 hS hAX hf hL hF
    obtain ⟨t2, a1, b1⟩ := kx E ce q u t T'.heap (locs ++ L) e1.symm (by rw [← e2]; exact X'.warmed.alike) hp hb k1 k2 k3 (by rw [e1]; exact hce) hcv hcl T' rfl X'
    exact ⟨t2, st.trans a1, b1⟩
theorem vx_calld {S SX : Type} {post : UInt64 → S → Prop} {px : SX → Prop} {B : S → State → Prop} {BX : String → SX → State → Prop} {AX : Nat → Prop} (hr : vx_Run p l e R s m args below meth c H locs cells slots mc ms (F0 m pc ls st0) rest (va_Qd post B A1 a) (vx_X px BX AX) free) (hS : va_S A0 H0 H locs) (hA : ∀ q, q < H.size → A1 q → A0 q) (hf : ∀ q, free q → A0 q) (hAX : ∀ q, q < H.size → AX q → A0 q)
    (kx : ∀ (E : String) (ce : Cell) (q9 : Addr) (u : SX) (t : State) (H1 : Heap) (locs1 : List Loc), t.heap = H1 → s.vm.Alike t.vm → px u → BX E u t → H.size ≤ H1.size → (∀ q : Nat, q < H.size → ¬ AX q → H1[q]? = H[q]?) → va_S A0 H0 H1 locs1 → H1[q9]? = some ce → ce.vm = .none → s.vm.findClass E = some ce.cls → vx_W p l e R s m args below meth c H1 locs1 (cells + mc) (slots + ms) Q (F0 m pc ls rest) q9)
    (kk : ∀ (r : UInt64) (u : S) (t : State) (H1 : Heap) (locs1 : List Loc), t.heap = H1 → s.vm.Alike t.vm → post r u → B u t → H.size ≤ H1.size → (∀ q : Nat, q < H.size → ¬ A1 q → H1[q]? = H[q]?) → va_S A0 H0 H1 locs1 → W p l e R s m args below meth c H1 locs1 (cells + mc) (slots + ms) Q (F0 m (pc + 3) ls (.double r :: rest))) : W p l e R s m args below meth c H locs cells slots Q (F0 m pc ls st0) := by
  intro T hT X
  rcases hr T hT X with ⟨v, st₀, t, T', L, h0, X', hL, e1, e2, ⟨⟨r, u, hv, hp, hb⟩, hF⟩, st⟩ | ⟨q, st₀, t, T', L, E, ce, h0, X', hL, e1, e2, ⟨u, hp, hb, hF⟩, hce, hcv, hcl, st⟩
  · cases hv
    obtain ⟨k1, k2, k3⟩ := vx_keep h0 e1 hS hA hf hL hF
    obtain ⟨t2, a1, b1⟩ := kk r u t T'.heap (locs ++ L) e1.symm (by rw [← e2]; exact X'.warmed.alike) hp hb k1 k2 k3 T' rfl X'
    exact ⟨t2, st t2 a1, b1⟩
  · obtain ⟨k1, k2, k3⟩ := vx_keep h0 e1 hS hAX hf hL hF
    obtain ⟨t2, a1, b1⟩ := kx E ce q u t T'.heap (locs ++ L) e1.symm (by rw [← e2]; exact X'.warmed.alike) hp hb k1 k2 k3 (by rw [e1]; exact hce) hcv hcl T' rfl X'
    exact ⟨t2, st.trans a1, b1⟩
theorem vx_callv {S SX : Type} {post : S → Prop} {px : SX → Prop} {B : S → State → Prop} {BX : String → SX → State → Prop} {AX : Nat → Prop} (hr : vx_Run p l e R s m args below meth c H locs cells slots mc ms (F0 m pc ls st0) rest (va_Qv post B A1 a) (vx_X px BX AX) free) (hS : va_S A0 H0 H locs) (hA : ∀ q, q < H.size → A1 q → A0 q) (hf : ∀ q, free q → A0 q) (hAX : ∀ q, q < H.size → AX q → A0 q)
    (kx : ∀ (E : String) (ce : Cell) (q9 : Addr) (u : SX) (t : State) (H1 : Heap) (locs1 : List Loc), t.heap = H1 → s.vm.Alike t.vm → px u → BX E u t → H.size ≤ H1.size → (∀ q : Nat, q < H.size → ¬ AX q → H1[q]? = H[q]?) → va_S A0 H0 H1 locs1 → H1[q9]? = some ce → ce.vm = .none → s.vm.findClass E = some ce.cls → vx_W p l e R s m args below meth c H1 locs1 (cells + mc) (slots + ms) Q (F0 m pc ls rest) q9)
    (kk : ∀ (u : S) (t : State) (H1 : Heap) (locs1 : List Loc), t.heap = H1 → s.vm.Alike t.vm → post u → B u t → H.size ≤ H1.size → (∀ q : Nat, q < H.size → ¬ A1 q → H1[q]? = H[q]?) → va_S A0 H0 H1 locs1 → W p l e R s m args below meth c H1 locs1 (cells + mc) (slots + ms) Q (F0 m (pc + 3) ls (rest))) : W p l e R s m args below meth c H locs cells slots Q (F0 m pc ls st0) := by
  intro T hT X
  rcases hr T hT X with ⟨v, st₀, t, T', L, h0, X', hL, e1, e2, ⟨⟨u, hv, hp, hb⟩, hF⟩, st⟩ | ⟨q, st₀, t, T', L, E, ce, h0, X', hL, e1, e2, ⟨u, hp, hb, hF⟩, hce, hcv, hcl, st⟩
  · cases hv
    obtain ⟨k1, k2, k3⟩ := vx_keep h0 e1 hS hA hf hL hF
    obtain ⟨t2, a1, b1⟩ := kk u t T'.heap (locs ++ L) e1.symm (by rw [← e2]; exact X'.warmed.alike) hp hb k1 k2 k3 T' rfl X'
    exact ⟨t2, st t2 a1, b1⟩
  · obtain ⟨k1, k2, k3⟩ := vx_keep h0 e1 hS hAX hf hL hF
    obtain ⟨t2, a1, b1⟩ := kx E ce q u t T'.heap (locs ++ L) e1.symm (by rw [← e2]; exact X'.warmed.alike) hp hb k1 k2 k3 (by rw [e1]; exact hce) hcv hcl T' rfl X'
    exact ⟨t2, st.trans a1, b1⟩
/-- caught by the row x of this method's table; the rows ahead don't take it -/
theorem vx_catch {own name : String} {E : String} {ce : Cell} {q : Addr} (hown : s.vm.findClass own = some m.cls) (pre : List ExceptionTableEntry) (x : ExceptionTableEntry) (suf : List ExceptionTableEntry) (hsplit : c.exceptionTable.toList = pre ++ x :: suf)
    (hpass : ∀ z ∈ pre, covers z pc = false ∨ (z.catchType ≠ 0 ∧ ∃ nm : String, (Cond.classLink own z.catchType nm).before args s = true ∧ va_Nc E nm s)) (hx : covers x pc = true) (h0 : x.catchType ≠ 0)
    (hlink : (Cond.classLink own x.catchType name).before args s = true) (hcast : (Cond.castable E name).before args s = true) (hcell : H[q]? = some ce) (hv : ce.vm = .none) (hcl : s.vm.findClass E = some ce.cls)
    (kk : W p l e R s m args below meth c H locs cells slots Q (F0 m x.handlerPc ls [.ref q])) : vx_W p l e R s m args below meth c H locs cells slots Q (F0 m pc ls rest) q := by
  intro T hT X
  have hpl : e.platform.magicAccessors = ({} : Platform).magicAccessors := by rw [X.admits.platform]
  obtain ⟨c3, c4, hc3, hc4, hasg⟩ := Cond.castable_spec hcast
  cases Option.some.inj (hc3.symm.trans hcl)
  obtain ⟨c5, hc5, hcl5⟩ := Cond.classLink_spec hown hlink e.platform hpl
  cases Option.some.inj (hc4.symm.trans hc5)
  obtain ⟨vm', X', st⟩ := Stand.thenCaughtThrough X q (g := F0 m pc ls rest) rfl (Steps.refl _) (by rw [hT]; exact hcell) (by rw [hv]; rfl) (by obtain ⟨k9, h9, -⟩ := Vm.findClass_spec hcl; exact ⟨k9, h9⟩) pre x suf hsplit
    (fun z hz => by
      rcases hpass z hz with h | ⟨hz0, nm, hl1, hn1⟩
      · exact Or.inl h
      · obtain ⟨c6, hc6, hcl6⟩ := Cond.classLink_spec hown hl1 e.platform hpl
        obtain ⟨a8, b8, h1, h2, h3⟩ := hn1
        cases Option.some.inj (h1.symm.trans hcl)
        cases Option.some.inj (h2.symm.trans hc6)
        exact Or.inr ⟨hz0, _, hcl6, h3⟩) hx (Or.inr ⟨h0, c4, hcl5, hasg⟩)
  obtain ⟨t, a1, b1⟩ := kk (T.setVm vm') hT X'
  exact ⟨t, st.trans a1, b1⟩
end Rows
section Ends
variable {p : Program} {l : Launch} {e : Env} {R : Room} {s : State} {m : MethodId} {args : Array Value} {below : List Frame} {meth : Method} {c : Code} {H : Heap} {locs : List Loc} {cells slots : Nat} {Q : State → Prop}
variable {mc ms : Nat} {free : Addr → Prop} {A0 A1 : Nat → Prop} {H0 : Heap} {a : Array Value} {ls : Array Slot} {st0 rest : List Value}
variable {Qc : Array Value → State → Outcome → State → Prop} {XC : String → State → State → Prop}
/-- what a body that may throw owes at its end -/
def vx_MQ (below : List Frame) (Qc : Array Value → State → Outcome → State → Prop) (XC : String → State → State → Prop) (a : Array Value) (s : State) (mc ms : Nat) (free : Addr → Prop) : State → Prop := fun t =>
  ∃ o, t.status = .running ∧ Ended t below o ∧ vx_Q Qc XC mc ms free a s o t
theorem vx_ret {g : JFrame} {mc ms : Nat} (k : W p l e R s m args below meth c H locs cells slots (MQ below Qc args s mc ms free) g) : W p l e R s m args below meth c H locs cells slots (vx_MQ below Qc XC args s mc ms free) g := by
  intro T hT X
  obtain ⟨t, a1, o, b1, b2, b3, b4⟩ := k T hT X
  exact ⟨t, a1, o, b1, b2, Or.inl ⟨b3, b4⟩⟩
/-- not caught here: it goes on to the caller -/
theorem vx_widen {g : JFrame} {q : Addr} {k n : Nat} (h1 : cells ≤ k) (h2 : slots ≤ n) (kk : vx_W p l e R s m args below meth c H locs k n Q g q) : vx_W p l e R s m args below meth c H locs cells slots Q g q := fun T hT X => kk T hT (stand_widen X h1 h2)
theorem vx_out {pc : Nat} {E : String} {ce : Cell} {q : Addr} {mc ms : Nat} (hout : ∀ x ∈ c.exceptionTable.toList, covers x pc = false) (hlocks : meth.locks = false) (hcell : H[q]? = some ce) (hv : ce.vm = .none) (hcl : s.vm.findClass E = some ce.cls)
    (hx : ∀ t : State, t.heap = H → s.vm.Alike t.vm → XC E s t) (hf : ∀ z ∈ locs, free z.base) (hc : cells ≤ mc) (hs : slots ≤ ms) :
    vx_W p l e R s m args below meth c H locs cells slots (vx_MQ below Qc XC args s mc ms free) (F0 m pc ls rest) q := by
  intro T hT X
  obtain ⟨st1, hrun, hend, hW, hsm⟩ := X.leaveThrown q (g := F0 m pc ls rest) rfl rfl rfl hout hlocks
  have hcell9 : (T.setFrames (.throwing q :: below)).heap[q]? = some ce := by
    show T.heap[q]? = some ce
    rw [hT]; exact hcell
  exact ⟨_, st1, .threw q, hrun, hend, Or.inr ⟨q, rfl, E, ce, locs, hx _ hT hW.alike, hcell9, hv, hcl, hW, hsm.mono hc hs, hf⟩⟩
theorem vx_frame {U : State} {k n : Nat} (h : s.sameButNew ({ U with vm := s.vm } : State) locs k n) : s.heap.size ≤ U.heap.size ∧ ∀ q : Nat, q < s.heap.size → (∀ z ∈ locs, z.base ≠ q) → U.heap[q]? = s.heap[q]? := by
  obtain ⟨-, h2, -, -, -, h6⟩ := h
  refine ⟨h2, fun q hq hz => ?_⟩
  obtain ⟨c9, e1, e2, e3, e4⟩ := h6 q _ (Array.getElem?_eq_getElem hq)
  have hs : c9.slots = (s.heap[q]).slots := Array.ext_getElem? fun i => e4 i fun hm => hz _ hm rfl
  have h9 : c9 = s.heap[q] := by
    rw [hs] at e2
    exact e2
  have e5 : U.heap[q]? = some c9 := e1
  rw [e5, h9, Array.getElem?_eq_getElem hq]
/-- the words of a throw but the four that speak of the heap -/
def vx_no (w : Cond) : Bool := decide (w ≠ .isRef (.static Bundle.tN "UNASSIGNED_STACK" Bundle.steD)) && decide (w ≠ .isRef (.static Bundle.tN "SUPPRESSED_SENTINEL" Bundle.listD)) && decide (w ≠ .laysStatic Bundle.tN "UNASSIGNED_STACK" Bundle.steD) && decide (w ≠ .laysStatic Bundle.tN "SUPPRESSED_SENTINEL" Bundle.listD)
def vx_at0 (own : String) (ic : Nat) (X : String) (names : List String) : List Cond := (Bundle.ownAtoms0 own ic X names).filter vx_no
def vx_atS (own : String) (ic : Nat) (X : String) (names : List String) : List Cond := (Bundle.ownAtoms own ic X names).filter vx_no
/-- a word that the tables alone decide, or a good one -/
def vx_ot (w : Cond) : Bool := w.onTables || goodWord w
theorem vx_ot_at {args a' : Array Value} {s U : State} {w : Cond} (hW : s.WarmedH U.vm) (hvm : s.vm = U.vm) (hg : vx_ot w = true) (h : w.before args s = true) : w.before a' U = true := by
  simp only [vx_ot, Bool.or_eq_true] at hg
  rcases hg with hg | hg
  · exact va_tabs hg hvm h
  · exact word_at hW (good_of_word hg) h
/-- a list's words: the good ones out of the method's own list, the others by premises of their own -/
theorem vx_hat {args : Array Value} {s : State} {L B : List Cond} (h1 : ∀ w ∈ L.filter goodWord, w.before args s = true) (h2 : ∀ w ∈ L.filter (fun w => !goodWord w), w ∈ B) (h3 : ∀ w ∈ B, w.before args s = true) : ∀ w ∈ L, w.before args s = true := by
  intro w hw
  by_cases g : goodWord w = true
  · exact h1 w (List.mem_filter.mpr ⟨hw, g⟩)
  · refine h3 w (h2 w (List.mem_filter.mpr ⟨hw, ?_⟩))
    show (!goodWord w) = true
    cases hgw : goodWord w
    · rfl
    · exact absurd hgw g
theorem vx_c {args : Array Value} {s : State} {w : Cond} {B : List Cond} (h : w.before args s = true) (t : ∀ w ∈ B, w.before args s = true) : ∀ w' ∈ w :: B, w'.before args s = true := fun w' h' => (List.mem_cons.mp h').elim (fun e => by rw [e]; exact h) (t w')
theorem vx_n {args : Array Value} {s : State} : ∀ w ∈ ([] : List Cond), w.before args s = true := fun _ h => nomatch h
theorem vx_own {args : Array Value} {s : State} {L : List Cond} (h1 : ∀ w ∈ L.filter vx_no, w.before args s = true)
    (hU : (Cond.isRef (.static Bundle.tN "UNASSIGNED_STACK" Bundle.steD)).before args s = true) (hN : (Cond.isRef (.static Bundle.tN "SUPPRESSED_SENTINEL" Bundle.listD)).before args s = true)
    (lU : (Cond.laysStatic Bundle.tN "UNASSIGNED_STACK" Bundle.steD).before args s = true) (lN : (Cond.laysStatic Bundle.tN "SUPPRESSED_SENTINEL" Bundle.listD).before args s = true) : ∀ w ∈ L, w.before args s = true := by
  intro w hw
  by_cases e1 : w = .isRef (.static Bundle.tN "UNASSIGNED_STACK" Bundle.steD)
  · rw [e1]; exact hU
  · by_cases e2 : w = .isRef (.static Bundle.tN "SUPPRESSED_SENTINEL" Bundle.listD)
    · rw [e2]; exact hN
    · by_cases e3 : w = .laysStatic Bundle.tN "UNASSIGNED_STACK" Bundle.steD
      · rw [e3]; exact lU
      · by_cases e4 : w = .laysStatic Bundle.tN "SUPPRESSED_SENTINEL" Bundle.listD
        · rw [e4]; exact lN
        · exact h1 w (List.mem_filter.mpr ⟨hw, by unfold vx_no; rw [decide_eq_true e1, decide_eq_true e2, decide_eq_true e3, decide_eq_true e4]; rfl⟩)
/-- where a static field lies, its class's statics cell in H -/
def vx_L (C n d : String) (A : Nat → Prop) (U : State) (H : Heap) : Prop := ∃ (c : ClassId) (k : Class) (i : Nat) (f : Field) (a : Nat) (cell : Cell), U.vm.findClass C = some c ∧ U.fieldFound? C n d = some (c, k, i, f) ∧ f.isStatic = true ∧ k.statics = some a ∧ H[a]? = some cell ∧ cell.vm.isStatics = true ∧ cell.cls = c ∧ f.slot < cell.slots.size ∧ k.staticTypes[f.slot]? = some f.type ∧ ¬ A a
theorem vx_L.moved {C n d : String} {A : Nat → Prop} {u U : State} {H : Heap} (hvm : u.vm.Alike U.vm) (h : vx_L C n d A u H) : vx_L C n d A U H := by
  obtain ⟨c, k, i, f, a, cell, h1, h2, h3, h4, h5, h6, h7, h8, h9, h10⟩ := h
  obtain ⟨k', hi', he⟩ := State.fieldFound?_setVm hvm h2
  exact ⟨c, k', i, f, a, cell, by rw [hvm.findClass]; exact h1, hi', h3, by rw [he]; exact h4, h5, h6, h7, h8, by rw [he]; exact h9, h10⟩
theorem vx_L.kept {C n d : String} {A : Nat → Prop} {U : State} {H H1 : Heap} (h : vx_L C n d A U H) (hq : ∀ a : Nat, a < H.size → ¬ A a → H1[a]? = H[a]?) : vx_L C n d A U H1 := by
  obtain ⟨c, k, i, f, a, cell, h1, h2, h3, h4, h5, h6, h7, h8, h9, h10⟩ := h
  exact ⟨c, k, i, f, a, cell, h1, h2, h3, h4, by rw [hq a (Array.getElem?_eq_some_iff.mp h5).1 h10]; exact h5, h6, h7, h8, h9, h10⟩
theorem vx_L.narrow {C n d : String} {A B : Nat → Prop} {U : State} {H : Heap} (h : vx_L C n d A U H) (hAB : ∀ q, B q → A q) : vx_L C n d B U H := by
  obtain ⟨c, k, i, f, a, cell, h1, h2, h3, h4, h5, h6, h7, h8, h9, h10⟩ := h
  exact ⟨c, k, i, f, a, cell, h1, h2, h3, h4, h5, h6, h7, h8, h9, fun z => h10 (hAB _ z)⟩
theorem vx_L.word {C n d : String} {A : Nat → Prop} {s : State} {args : Array Value} (h : vx_L C n d A s s.heap) : (Cond.laysStatic C n d).before args s = true := by
  obtain ⟨c, k, i, f, a, cell, h1, h2, h3, h4, h5, h6, h7, h8, h9, -⟩ := h
  show (Cond.laysStatic C n d).holds args s none s [] = true
  exact Cond.laysStatic_of h1 h2 h3 h4 h5 h6 h7 h8 h9
/-- .. and what it holds: null or some reference -/
def vx_Zq (C n d : String) (A : Nat → Prop) (U : State) (H : Heap) : Prop := va_Zq C n d A U H ∧ vx_L C n d A U H
theorem vx_Zq.moved {C n d : String} {A : Nat → Prop} {u U : State} {H : Heap} (hvm : u.vm.Alike U.vm) (h : vx_Zq C n d A u H) : vx_Zq C n d A U H := ⟨va_Zq.moved hvm h.1, vx_L.moved hvm h.2⟩
theorem vx_Zq.kept {C n d : String} {A : Nat → Prop} {U : State} {H H1 : Heap} (h : vx_Zq C n d A U H) (hq : ∀ a : Nat, a < H.size → ¬ A a → H1[a]? = H[a]?) : vx_Zq C n d A U H1 := ⟨va_Zq.kept h.1 hq, vx_L.kept h.2 hq⟩
theorem vx_Zq.narrow {C n d : String} {A B : Nat → Prop} {U : State} {H : Heap} (h : vx_Zq C n d A U H) (hAB : ∀ q, B q → A q) : vx_Zq C n d B U H := ⟨va_Zq.narrow h.1 hAB, vx_L.narrow h.2 hAB⟩
theorem vx_Zqof {args : Array Value} {s : State} {C n d : String} {A : Nat → Prop} (hl : (Cond.laysStatic C n d).before args s = true) (hini : (Cond.initialized C).before args s = true) (h : (Cond.isRef (.static C n d)).before args s = true) (hA : ∀ a : Nat, a < s.heap.size → ¬ A a) : vx_Zq C n d A s s.heap := by
  refine ⟨va_Zqof hl hini h hA, ?_⟩
  obtain ⟨c, k, i, f, a, cell, h1, h2, h3, h4, h5, h6, h7, h8, h9⟩ := Cond.laysStatic_spec hl
  exact ⟨c, k, i, f, a, cell, h1, h2, h3, h4, h5, h6, h7, h8, h9, hA a (Array.getElem?_eq_some_iff.mp h5).1⟩
theorem vx_isRef {C n d : String} {v : Value} {A : Nat → Prop} {s : State} {args : Array Value} (h : va_Z C n d v A s s.heap) (hv : v.isRef = true) : (Cond.isRef (.static C n d)).before args s = true := by
  obtain ⟨cf, kf, fi, f, a, cell, h1, h2, h3, h4, h5, h6, h7, -⟩ := h
  have he : (Term.static C n d).eval args s none [] s = some v := by
    simp [Term.eval, State.fieldNamed?, h1, h2, h4, h5, h6, h7]
  simp only [Cond.before, Cond.holds, Cond.value, he]
  cases v <;> simp_all [Value.isRef]
theorem vx_isRefq {C n d : String} {A : Nat → Prop} {s : State} {args : Array Value} (h : va_Zq C n d A s s.heap) : (Cond.isRef (.static C n d)).before args s = true := by
  rcases h with h | ⟨t, h⟩
  · exact vx_isRef h rfl
  · exact vx_isRef h rfl
/-- the same frame, seen from here: as if the method were called anew in this heap -/
theorem vx_rebase {T : State} (X : Stand p l e R s m args below meth c T locs cells slots) {R' : Room} (hf : R'.frames ≤ R.frames) (hl : R'.locals ≤ R.locals) (hc : cells + R'.cells ≤ R.cells) (hs : slots + R'.slots ≤ R.slots) :
    Stand p l e R' ((T.setVm s.vm).setFrames (.invoking m args :: below)) m args below meth c T [] 0 0 := by
  have htop : (T.setVm s.vm).topJava?.isSome := X.here.top
  have hF : ((T.setVm s.vm).setFrames (.invoking m args :: below)).frames = .invoking m args :: below := State.frames_setFrames _ (State.cur_lt_of_top htop)
  obtain ⟨g₀, hg0⟩ := Option.isSome_iff_exists.mp htop
  obtain ⟨r, hr⟩ := State.topJava?_eq_some.mp hg0
  have hl9 : e.platform.stackLimits (T.setVm s.vm).me = e.platform.stackLimits s.me := X.limits
  have hb9 : (T.setVm s.vm).me.stackBytes = s.me.stackBytes := X.bytes
  refine ⟨X.admits, X.cas, X.clock, hF, ?_, X.hears, X.method, X.code, X.here, X.tail, X.warmed, ?_, ?_, ?_⟩
  · have h := X.room
    have hU : ((T.setVm s.vm).setFrames (.invoking m args :: below)).localsInUse = s.localsInUse := by
      rw [State.localsInUse_invoking hF (meth := meth) (c := c) X.method X.code, State.localsInUse_invoking X.frames X.method X.code]
    simp only [State.hasRoom, Bool.and_eq_true, decide_eq_true_eq] at h ⊢
    obtain ⟨⟨⟨⟨h1, h2, h3, h4, h5, h6⟩, h7⟩, h8⟩, h9⟩ := h
    rw [X.frames, List.length_cons] at h2 h3
    have q1 := X.heapSize
    have q2 := X.used
    simp only [hF, hU, List.length_cons, State.stackLimits_setFrames, State.stackBytes_setFrames, hl9, hb9]
    refine ⟨⟨⟨⟨by omega, by omega, by omega, by omega, by omega, h6⟩, ?_⟩, ?_⟩, X.book⟩
    · show T.heap.size + R'.cells ≤ e.platform.maxCells
      omega
    · show T.slotsUsed + R'.slots ≤ e.platform.maxSlots
      omega
  · rw [State.stackLimits_setFrames]; rfl
  · rw [State.stackBytes_setFrames]; rfl
  · refine ⟨?_, Nat.le_refl _, Nat.le_refl _, ?_, ?_, fun a c9 h9 => ⟨c9, h9, rfl, rfl, fun _ _ => rfl⟩⟩
    · obtain ⟨t, ht, -⟩ := State.frames_cons hr
      show T.setVm s.vm = { ((T.setVm s.vm).setFrames (.invoking m args :: below)).setFrames (T.setVm s.vm).frames with heap := T.heap, slotsUsed := T.slotsUsed }
      rw [State.setFrames_setFrames, State.setFrames_self ht]
      rfl
    · show T.slotsUsed = T.slotsUsed + ((T.heap.toList.drop T.heap.size).map (·.slots.size)).sum
      rw [List.drop_eq_nil_of_le (Nat.le_of_eq Array.length_toList)]
      rfl
    · show ((T.heap.toList.drop T.heap.size).map (·.slots.size)).sum ≤ 0
      rw [List.drop_eq_nil_of_le (Nat.le_of_eq Array.length_toList)]
      exact Nat.le_refl _
/-- 'throw new E()': new; dup; invokespecial; athrow -/
theorem vx_throw0 {cc : ByteArray} {pc : Nat} (hexec : p.tables.exec = Jvm.exec) (hb : c.code = cc) (hl : l.stackTraces = false) {own cls : String} {names : List String} {ik ic mc ms : Nat} {A : Nat → Prop}
    (hown : s.vm.findClass own = some m.cls) (hcls : Bundle.fit cls = true) (hnames : ∀ n ∈ names, Bundle.fit n = true)
    (hk : (Cond.classLink own ik cls).before args s = true) (hini : (Cond.initialized cls).before args s = true) (hat : ∀ w ∈ vx_at0 own ic cls names, w.before args s = true)
    (hgood : ∀ w ∈ Cond.classLink own ik cls :: Cond.initialized cls :: vx_at0 own ic cls names, vx_ot w = true)
    (hU : vx_Zq Bundle.tN "UNASSIGNED_STACK" Bundle.steD A s s.heap) (hN : vx_Zq Bundle.tN "SUPPRESSED_SENTINEL" Bundle.listD A s s.heap) (hS : va_S A s.heap H locs) (hsize : ls.size = c.maxLocals)
    (d0 : decode cc pc = .ok (.new ik, 3)) (d3 : decode cc (pc + 3) = .ok (.dup, 1)) (d4 : decode cc (pc + 4) = .ok (.invokespecial ic, 3)) (d7 : decode cc (pc + 7) = .ok (.athrow, 1))
    (hout : ∀ x ∈ c.exceptionTable.toList, covers x (pc + 7) = false)
    (hRframes : names.length + 3 < R.frames) (hRlocals : (rest.map fun v => v.category).sum + (13 * (names.length + 1) + 42) ≤ R.locals) (hRcells : cells + 1 ≤ R.cells) (hRslots : slots + 6 ≤ R.slots) (hlocks : meth.locks = false)
    (hx : ∀ t : State, s.vm.Alike t.vm → H.size ≤ t.heap.size → (∀ q : Nat, q < H.size → t.heap[q]? = H[q]?) → XC cls s t)
    (hf : ∀ z ∈ locs, free z.base) (hc : cells + 1 ≤ mc) (hs : slots + 6 ≤ ms) :
    W p l e R s m args below meth c H locs cells slots (vx_MQ below Qc XC args s mc ms free) (F0 m pc ls rest) := by
  intro T hT X
  have htr : e.platform.stackTraces = false := (show e.platform.stackTraces = l.stackTraces by rw [X.admits.platform]).trans hl
  have Y := vx_rebase X (R' := { frames := R.frames, locals := R.locals, cells := 1, slots := 6 }) (Nat.le_refl _) (Nat.le_refl _) hRcells hRslots
  obtain ⟨s', hA⟩ : ∃ z, z = (T.setVm s.vm).setFrames (.invoking m args :: below) := ⟨_, rfl⟩
  rw [← hA] at Y
  have hvm : s'.vm = s.vm := by rw [hA]; rfl
  have hhp : s'.heap = H := by rw [hA]; exact hT
  have hW0 : s.WarmedH s'.vm := by rw [hvm]; exact State.WarmedH.refl s
  have hat' : ∀ w ∈ vx_at0 own ic cls names, w.before args s' = true := fun w hw => vx_ot_at hW0 hvm.symm (hgood w (List.mem_cons_of_mem _ (List.mem_cons_of_mem _ hw))) (hat w hw)
  have hk' : (Cond.classLink own ik cls).before args s' = true := vx_ot_at hW0 hvm.symm (hgood _ List.mem_cons_self) hk
  have hini' : (Cond.initialized cls).before args s' = true := vx_ot_at hW0 hvm.symm (hgood _ (List.mem_cons_of_mem _ List.mem_cons_self)) hini
  have hU' : vx_Zq Bundle.tN "UNASSIGNED_STACK" Bundle.steD A s' s'.heap := by rw [hhp]; exact vx_Zq.moved hW0.alike (hU.kept hS.2.1)
  have hN' : vx_Zq Bundle.tN "SUPPRESSED_SENTINEL" Bundle.listD A s' s'.heap := by rw [hhp]; exact vx_Zq.moved hW0.alike (hN.kept hS.2.1)
  have h : ∀ w ∈ Bundle.ownAtoms0 own ic cls names, w.before args s' = true := vx_own hat' (vx_isRefq hU'.1) (vx_isRefq hN'.1) hU'.2.word hN'.2.word
  have hown' : s'.vm.findClass own = some m.cls := by rw [hvm]; exact hown
  have hins : (Cond.instantiable cls 6).before args s' = true := h _ (by simp [Bundle.ownAtoms0])
  obtain ⟨vm₁, cX, kX, hfX, hkX, -, -, X₁, st1⟩ := Y.newCold hexec (own := own) (C := cls) (index := ik) (n := 6) hown' hk' hins hini'
    (g := F0 m pc ls rest) rfl (by rw [hb]; exact d0) (Nat.le_refl _) (Nat.le_refl _)
  generalize hT1 : (T.setVm vm₁).pushCell { cls := cX, slots := kX.instanceTypes.map defaultValue, vm := .none } = T1 at X₁ st1
  have hcat : (Value.ref T.heap.size).category = 1 := rfl
  have hcellA : T1.heap[T.heap.size]? = some (freshCell cX kX) := by rw [← hT1]; exact State.heap_pushCell_size _ _
  have d3' : decode c.code (pc + 3) = .ok (.dup, 1) := by rw [hb]; exact d3
  obtain ⟨U, hsteps, hrun, hend, hW, hsame, ce, hce, hO⟩ := X₁.ctorThrow0 hexec htr (own := own) (cls := cls) (names := names) (ic := ic) hown' hcls hnames h (fun x hx => nomatch hx) hfX hkX hcellA (by rw [hhp, hT]; exact Nat.le_refl _)
    (g := { method := m, pc := pc + 4, locals := ls, stack := .ref T.heap.size :: .ref T.heap.size :: rest, locked := none }) rfl hsize rfl rfl (rest := rest) rfl
    (by rw [hb]; exact d4) (by rw [hb]; exact d7) hout hRframes (by simp only [List.map_cons, List.sum_cons, hcat]; omega) hlocks
  obtain ⟨f1, f2⟩ := vx_frame hsame
  rw [hhp] at f1 f2
  have hWs : s.WarmedH U.vm := State.WarmedH.trans hW0 hW
  have hcl : s.vm.findClass cls = some ce.cls := by
    have h9 := hO.cls
    rw [hvm] at h9
    exact h9
  have hall : s.sameButNew ({ U with vm := s.vm } : State) locs mc ms := by
    subst hA
    obtain ⟨e1, e2⟩ := hsame
    rw [State.setFrames_setFrames] at e1
    have h2 : (T.setVm s.vm).sameButNew ({ U with vm := s.vm } : State) [] (0 + 1) (0 + 6) := ⟨e1, e2⟩
    have h3 := X.same.trans h2
    rw [List.append_nil] at h3
    exact h3.mono hc hs
  refine ⟨U, ?_, .threw T.heap.size, hrun, hend, Or.inr ⟨T.heap.size, rfl, cls, ce, locs, hx U hWs.alike f1 (fun q hq => f2 q hq (fun z hz => nomatch hz)), hce, hO.vm, hcl, hWs, hall, hf⟩⟩
  refine st1 _ ?_
  show Steps p.tables e below (T1.setTop { method := m, pc := pc + 3, locals := ls, stack := .ref T.heap.size :: rest, locked := none }) _
  jvm_step X₁.here [X₁.here.top, hexec, d3', Value.category]
  exact hsteps
/-- 'throw new E("text")': new; dup; ldc; invokespecial; athrow -/
theorem vx_throwS {cc : ByteArray} {pc : Nat} (hexec : p.tables.exec = Jvm.exec) (hb : c.code = cc) (hl : l.stackTraces = false) {own cls text : String} {names : List String} {ik is ic mc ms sa : Nat} {A : Nat → Prop}
    (hown : s.vm.findClass own = some m.cls) (hcls : Bundle.fit cls = true) (hnames : ∀ n ∈ names, Bundle.fit n = true)
    (hk : (Cond.classLink own ik cls).before args s = true) (hini : (Cond.initialized cls).before args s = true) (hstr : vk_R own is text sa s) (hat : ∀ w ∈ vx_atS own ic cls names, w.before args s = true)
    (hgood : ∀ w ∈ Cond.classLink own ik cls :: Cond.initialized cls :: vx_atS own ic cls names, vx_ot w = true)
    (hU : vx_Zq Bundle.tN "UNASSIGNED_STACK" Bundle.steD A s s.heap) (hN : vx_Zq Bundle.tN "SUPPRESSED_SENTINEL" Bundle.listD A s s.heap) (hS : va_S A s.heap H locs) (hsize : ls.size = c.maxLocals)
    (d0 : decode cc pc = .ok (.new ik, 3)) (d3 : decode cc (pc + 3) = .ok (.dup, 1)) (d4 : decode cc (pc + 4) = .ok (.ldc is, 2)) (d6 : decode cc (pc + 6) = .ok (.invokespecial ic, 3)) (d9 : decode cc (pc + 9) = .ok (.athrow, 1))
    (hout : ∀ x ∈ c.exceptionTable.toList, covers x (pc + 9) = false)
    (hRframes : names.length + 3 < R.frames) (hRlocals : (rest.map fun v => v.category).sum + (13 * (names.length + 1) + 43) ≤ R.locals) (hRcells : cells + 1 ≤ R.cells) (hRslots : slots + 6 ≤ R.slots) (hlocks : meth.locks = false)
    (hx : ∀ t : State, s.vm.Alike t.vm → H.size ≤ t.heap.size → (∀ q : Nat, q < H.size → t.heap[q]? = H[q]?) → XC cls s t)
    (hf : ∀ z ∈ locs, free z.base) (hc : cells + 1 ≤ mc) (hs : slots + 6 ≤ ms) :
    W p l e R s m args below meth c H locs cells slots (vx_MQ below Qc XC args s mc ms free) (F0 m pc ls rest) := by
  intro T hT X
  have htr : e.platform.stackTraces = false := (show e.platform.stackTraces = l.stackTraces by rw [X.admits.platform]).trans hl
  have Y := vx_rebase X (R' := { frames := R.frames, locals := R.locals, cells := 1, slots := 6 }) (Nat.le_refl _) (Nat.le_refl _) hRcells hRslots
  obtain ⟨s', hA⟩ : ∃ z, z = (T.setVm s.vm).setFrames (.invoking m args :: below) := ⟨_, rfl⟩
  rw [← hA] at Y
  have hvm : s'.vm = s.vm := by rw [hA]; rfl
  have hhp : s'.heap = H := by rw [hA]; exact hT
  have hW0 : s.WarmedH s'.vm := by rw [hvm]; exact State.WarmedH.refl s
  have hat' : ∀ w ∈ vx_atS own ic cls names, w.before args s' = true := fun w hw => vx_ot_at hW0 hvm.symm (hgood w (List.mem_cons_of_mem _ (List.mem_cons_of_mem _ hw))) (hat w hw)
  have hk' : (Cond.classLink own ik cls).before args s' = true := vx_ot_at hW0 hvm.symm (hgood _ List.mem_cons_self) hk
  have hini' : (Cond.initialized cls).before args s' = true := vx_ot_at hW0 hvm.symm (hgood _ (List.mem_cons_of_mem _ List.mem_cons_self)) hini
  have hU' : vx_Zq Bundle.tN "UNASSIGNED_STACK" Bundle.steD A s' s'.heap := by rw [hhp]; exact vx_Zq.moved hW0.alike (hU.kept hS.2.1)
  have hN' : vx_Zq Bundle.tN "SUPPRESSED_SENTINEL" Bundle.listD A s' s'.heap := by rw [hhp]; exact vx_Zq.moved hW0.alike (hN.kept hS.2.1)
  have h : ∀ w ∈ Bundle.ownAtoms own ic cls names, w.before args s' = true := vx_own hat' (vx_isRefq hU'.1) (vx_isRefq hN'.1) hU'.2.word hN'.2.word
  have hown' : s'.vm.findClass own = some m.cls := by rw [hvm]; exact hown
  have hins : (Cond.instantiable cls 6).before args s' = true := h _ (by simp [Bundle.ownAtoms])
  obtain ⟨vm₁, cX, kX, hfX, hkX, -, -, X₁, st1⟩ := Y.newCold hexec (own := own) (C := cls) (index := ik) (n := 6) hown' hk' hins hini'
    (g := F0 m pc ls rest) rfl (by rw [hb]; exact d0) (Nat.le_refl _) (Nat.le_refl _)
  generalize hT1 : (T.setVm vm₁).pushCell { cls := cX, slots := kX.instanceTypes.map defaultValue, vm := .none } = T1 at X₁ st1
  have hcat : (Value.ref T.heap.size).category = 1 := rfl
  have hcellA : T1.heap[T.heap.size]? = some (freshCell cX kX) := by rw [← hT1]; exact State.heap_pushCell_size _ _
  have d3' : decode c.code (pc + 3) = .ok (.dup, 1) := by rw [hb]; exact d3
  have d4' : decode c.code (pc + 4) = .ok (.ldc is, 2) := by rw [hb]; exact d4
  have hstr' : vk_R own is text sa s' := vk_R.warm hW0 hstr
  obtain ⟨U, hsteps, hrun, hend, hW, hsame, ce, hce, hO⟩ := X₁.ctorThrowS hexec htr (own := own) (cls := cls) (names := names) (ic := ic) hown' hcls hnames h (fun x hx => nomatch hx) hfX hkX hcellA (by rw [hhp, hT]; exact Nat.le_refl _) (msg := .ref sa) rfl
    (g := { method := m, pc := pc + 6, locals := ls, stack := .ref sa :: .ref T.heap.size :: .ref T.heap.size :: rest, locked := none }) rfl hsize rfl rfl (rest := rest) rfl
    (by rw [hb]; exact d6) (by rw [hb]; exact d9) hout hRframes (by simp only [List.map_cons, List.sum_cons, hcat]; omega) hlocks
  obtain ⟨f1, f2⟩ := vx_frame hsame
  rw [hhp] at f1 f2
  have hWs : s.WarmedH U.vm := State.WarmedH.trans hW0 hW
  have hcl : s.vm.findClass cls = some ce.cls := by
    have h9 := hO.cls
    rw [hvm] at h9
    exact h9
  have hall : s.sameButNew ({ U with vm := s.vm } : State) locs mc ms := by
    subst hA
    obtain ⟨e1, e2⟩ := hsame
    rw [State.setFrames_setFrames] at e1
    have h2 : (T.setVm s.vm).sameButNew ({ U with vm := s.vm } : State) [] (0 + 1) (0 + 6) := ⟨e1, e2⟩
    have h3 := X.same.trans h2
    rw [List.append_nil] at h3
    exact h3.mono hc hs
  refine ⟨U, ?_, .threw T.heap.size, hrun, hend, Or.inr ⟨T.heap.size, rfl, cls, ce, locs, hx U hWs.alike f1 (fun q hq => f2 q hq (fun z hz => nomatch hz)), hce, hO.vm, hcl, hWs, hall, hf⟩⟩
  refine st1 _ ?_
  show Steps p.tables e below (T1.setTop { method := m, pc := pc + 3, locals := ls, stack := .ref T.heap.size :: rest, locked := none }) _
  jvm_step X₁.here [X₁.here.top, hexec, d3', Value.category]
  exact X₁.ldcString hexec (own := own) (text := text) (index := is) (a := sa) hown' hstr'.1 hstr'.2
    (g := { method := m, pc := pc + 4, locals := ls, stack := .ref T.heap.size :: .ref T.heap.size :: rest, locked := none }) rfl d4' _ hsteps
/-- 'throw new E("text")', the text by a wide index -/
theorem vx_throwSW {cc : ByteArray} {pc : Nat} (hexec : p.tables.exec = Jvm.exec) (hb : c.code = cc) (hl : l.stackTraces = false) {own cls text : String} {names : List String} {ik is ic mc ms sa : Nat} {A : Nat → Prop}
    (hown : s.vm.findClass own = some m.cls) (hcls : Bundle.fit cls = true) (hnames : ∀ n ∈ names, Bundle.fit n = true)
    (hk : (Cond.classLink own ik cls).before args s = true) (hini : (Cond.initialized cls).before args s = true) (hstr : vk_R own is text sa s) (hat : ∀ w ∈ vx_atS own ic cls names, w.before args s = true)
    (hgood : ∀ w ∈ Cond.classLink own ik cls :: Cond.initialized cls :: vx_atS own ic cls names, vx_ot w = true)
    (hU : vx_Zq Bundle.tN "UNASSIGNED_STACK" Bundle.steD A s s.heap) (hN : vx_Zq Bundle.tN "SUPPRESSED_SENTINEL" Bundle.listD A s s.heap) (hS : va_S A s.heap H locs) (hsize : ls.size = c.maxLocals)
    (d0 : decode cc pc = .ok (.new ik, 3)) (d3 : decode cc (pc + 3) = .ok (.dup, 1)) (d4 : decode cc (pc + 4) = .ok (.ldc_w is, 3)) (d7 : decode cc (pc + 7) = .ok (.invokespecial ic, 3)) (d10 : decode cc (pc + 10) = .ok (.athrow, 1))
    (hout : ∀ x ∈ c.exceptionTable.toList, covers x (pc + 10) = false)
    (hRframes : names.length + 3 < R.frames) (hRlocals : (rest.map fun v => v.category).sum + (13 * (names.length + 1) + 43) ≤ R.locals) (hRcells : cells + 1 ≤ R.cells) (hRslots : slots + 6 ≤ R.slots) (hlocks : meth.locks = false)
    (hx : ∀ t : State, s.vm.Alike t.vm → H.size ≤ t.heap.size → (∀ q : Nat, q < H.size → t.heap[q]? = H[q]?) → XC cls s t)
    (hf : ∀ z ∈ locs, free z.base) (hc : cells + 1 ≤ mc) (hs : slots + 6 ≤ ms) :
    W p l e R s m args below meth c H locs cells slots (vx_MQ below Qc XC args s mc ms free) (F0 m pc ls rest) := by
  intro T hT X
  have htr : e.platform.stackTraces = false := (show e.platform.stackTraces = l.stackTraces by rw [X.admits.platform]).trans hl
  have Y := vx_rebase X (R' := { frames := R.frames, locals := R.locals, cells := 1, slots := 6 }) (Nat.le_refl _) (Nat.le_refl _) hRcells hRslots
  obtain ⟨s', hA⟩ : ∃ z, z = (T.setVm s.vm).setFrames (.invoking m args :: below) := ⟨_, rfl⟩
  rw [← hA] at Y
  have hvm : s'.vm = s.vm := by rw [hA]; rfl
  have hhp : s'.heap = H := by rw [hA]; exact hT
  have hW0 : s.WarmedH s'.vm := by rw [hvm]; exact State.WarmedH.refl s
  have hat' : ∀ w ∈ vx_atS own ic cls names, w.before args s' = true := fun w hw => vx_ot_at hW0 hvm.symm (hgood w (List.mem_cons_of_mem _ (List.mem_cons_of_mem _ hw))) (hat w hw)
  have hk' : (Cond.classLink own ik cls).before args s' = true := vx_ot_at hW0 hvm.symm (hgood _ List.mem_cons_self) hk
  have hini' : (Cond.initialized cls).before args s' = true := vx_ot_at hW0 hvm.symm (hgood _ (List.mem_cons_of_mem _ List.mem_cons_self)) hini
  have hU' : vx_Zq Bundle.tN "UNASSIGNED_STACK" Bundle.steD A s' s'.heap := by rw [hhp]; exact vx_Zq.moved hW0.alike (hU.kept hS.2.1)
  have hN' : vx_Zq Bundle.tN "SUPPRESSED_SENTINEL" Bundle.listD A s' s'.heap := by rw [hhp]; exact vx_Zq.moved hW0.alike (hN.kept hS.2.1)
  have h : ∀ w ∈ Bundle.ownAtoms own ic cls names, w.before args s' = true := vx_own hat' (vx_isRefq hU'.1) (vx_isRefq hN'.1) hU'.2.word hN'.2.word
  have hown' : s'.vm.findClass own = some m.cls := by rw [hvm]; exact hown
  have hins : (Cond.instantiable cls 6).before args s' = true := h _ (by simp [Bundle.ownAtoms])
  obtain ⟨vm₁, cX, kX, hfX, hkX, -, -, X₁, st1⟩ := Y.newCold hexec (own := own) (C := cls) (index := ik) (n := 6) hown' hk' hins hini'
    (g := F0 m pc ls rest) rfl (by rw [hb]; exact d0) (Nat.le_refl _) (Nat.le_refl _)
  generalize hT1 : (T.setVm vm₁).pushCell { cls := cX, slots := kX.instanceTypes.map defaultValue, vm := .none } = T1 at X₁ st1
  have hcat : (Value.ref T.heap.size).category = 1 := rfl
  have hcellA : T1.heap[T.heap.size]? = some (freshCell cX kX) := by rw [← hT1]; exact State.heap_pushCell_size _ _
  have d3' : decode c.code (pc + 3) = .ok (.dup, 1) := by rw [hb]; exact d3
  have d4' : decode c.code (pc + 4) = .ok (.ldc_w is, 3) := by rw [hb]; exact d4
  have hstr' : vk_R own is text sa s' := vk_R.warm hW0 hstr
  obtain ⟨U, hsteps, hrun, hend, hW, hsame, ce, hce, hO⟩ := X₁.ctorThrowS hexec htr (own := own) (cls := cls) (names := names) (ic := ic) hown' hcls hnames h (fun x hx => nomatch hx) hfX hkX hcellA (by rw [hhp, hT]; exact Nat.le_refl _) (msg := .ref sa) rfl
    (g := { method := m, pc := pc + 7, locals := ls, stack := .ref sa :: .ref T.heap.size :: .ref T.heap.size :: rest, locked := none }) rfl hsize rfl rfl (rest := rest) rfl
    (by rw [hb]; exact d7) (by rw [hb]; exact d10) hout hRframes (by simp only [List.map_cons, List.sum_cons, hcat]; omega) hlocks
  obtain ⟨f1, f2⟩ := vx_frame hsame
  rw [hhp] at f1 f2
  have hWs : s.WarmedH U.vm := State.WarmedH.trans hW0 hW
  have hcl : s.vm.findClass cls = some ce.cls := by
    have h9 := hO.cls
    rw [hvm] at h9
    exact h9
  have hall : s.sameButNew ({ U with vm := s.vm } : State) locs mc ms := by
    subst hA
    obtain ⟨e1, e2⟩ := hsame
    rw [State.setFrames_setFrames] at e1
    have h2 : (T.setVm s.vm).sameButNew ({ U with vm := s.vm } : State) [] (0 + 1) (0 + 6) := ⟨e1, e2⟩
    have h3 := X.same.trans h2
    rw [List.append_nil] at h3
    exact h3.mono hc hs
  refine ⟨U, ?_, .threw T.heap.size, hrun, hend, Or.inr ⟨T.heap.size, rfl, cls, ce, locs, hx U hWs.alike f1 (fun q hq => f2 q hq (fun z hz => nomatch hz)), hce, hO.vm, hcl, hWs, hall, hf⟩⟩
  refine st1 _ ?_
  show Steps p.tables e below (T1.setTop { method := m, pc := pc + 3, locals := ls, stack := .ref T.heap.size :: rest, locked := none }) _
  jvm_step X₁.here [X₁.here.top, hexec, d3', Value.category]
  exact X₁.ldcStringW hexec (own := own) (text := text) (index := is) (a := sa) hown' hstr'.1 hstr'.2
    (g := { method := m, pc := pc + 4, locals := ls, stack := .ref T.heap.size :: .ref T.heap.size :: rest, locked := none }) rfl d4' _ hsteps
end Ends
section Bodies
variable {l : Launch}
theorem vx_ofW {y : MethodName} {ws ws' : List Cond} {rm : Room} {Pc : Array Value → State → Prop} {Qc : Array Value → State → Outcome → State → Prop} {XC : String → State → State → Prop} {mc ms : Nat} {free : Addr → Prop} {cc : ByteArray} {maxL : Nat} {ret : Option FieldType}
    (hy : plainName y.cls = true) (hw : ws = Cond.code y cc maxL ret :: ws')
    (body : ∀ p e s m args below meth c s₁, BodyLoose p l y (headSpec ws rm) cc maxL ret e s m args below meth c s₁ → c.maxLocals = maxL → (∀ x ∈ c.exceptionTable.toList, False) → Pc args s →
      W p l e (headSpec ws rm).room s m args below meth c s.heap [] 0 0 (vx_MQ below Qc XC args s mc ms free) (entryFrame m args maxL)) : vx_Met l y ws rm Pc Qc XC mc ms free := by
  refine MetFree.of_bodyS (code := cc) (maxLocals := maxL) (ret := ret) hy ?_ ?_
  · intro args s m h hn
    obtain ⟨meth, c, h1, h2, h3, h4, h5, h6, -, -⟩ := Cond.code_spec hn (atoms_spec (ws := ws) h _ (by rw [hw]; exact List.mem_cons_self))
    exact ⟨meth, c, h1, h2, h3, h4, h5, h6⟩
  · intro p e s m args below meth c s₁ B hml hP _
    have hh0 : s₁.heap = s.heap := by rw [B.state]; rfl
    have ht : ∀ x ∈ c.exceptionTable.toList, False := by
      obtain ⟨meth9, c9, h1, h2, -, -, -, -, h7, -⟩ := Cond.code_spec B.named (atoms_spec (ws := ws) B.pre _ (by rw [hw]; exact List.mem_cons_self))
      cases Option.some.inj (h1.symm.trans B.method)
      cases Option.some.inj (h2.symm.trans (Stand.of_body B).code)
      intro x hx
      rw [Array.isEmpty_iff.mp h7] at hx
      cases hx
    obtain ⟨t, a1, o, b1, b2, b3⟩ := body p e s m args below meth c s₁ B hml ht hP s₁ hh0 (Stand.of_body B)
    exact ⟨t, o, a1, b1, b2, b3⟩
/-- the table of a body with handlers -/
theorem vx_table {p : Program} {x y : MethodName} {S : Spec} {cc bytes : ByteArray} {maxL maxL' : Nat} {ret ret' : Option FieldType} {e : Env} {s s₁ : State} {m : MethodId} {args : Array Value} {below : List Frame} {meth : Method} {c : Code} {hh : List (Nat × Nat × Nat × Nat)}
    (B : BodyLoose p l y S cc maxL ret e s m args below meth c s₁) (h : (Cond.codeWith y bytes maxL' ret' hh).before args s = true) : c.exceptionTable.toList = tableOf hh := by
  obtain ⟨m9, meth9, c9, hn9, h1, h2, -, -, h6, -⟩ := Cond.codeWith_spec h
  cases Option.some.inj (hn9.symm.trans B.named)
  cases Option.some.inj (h1.symm.trans B.method)
  cases Option.some.inj (h2.symm.trans (Stand.of_body B).code)
  rw [← h6, table_eq]
end Bodies
end VXA
/-! ===== END ===== -/
/-! ===== BEGIN a static call of a method with an exception table ===== -/
section VXS
variable {p : Program} {l : Launch} {e : Env} {R : Room} {s : State} {m : MethodId} {args : Array Value} {below : List Frame} {meth : Method} {c : Code} {T : State} {H : Heap} {locs : List Loc} {cells slots : Nat}
abbrev vx_CSW (R : Room) (s : State) (args : Array Value) (own : String) (index : Nat) (y : MethodName) (bytes : ByteArray) (maxL : Nat) (ret : Option FieldType) (hh : List (Nat × Nat × Nat × Nat)) (ws : List Cond) (rm : Room) (mc ms n : Nat) : Prop :=
  (rm.cells = mc ∧ rm.slots = ms ∧ rm.frames + 1 ≤ R.frames ∧ 8 + (maxL + 11) + rm.locals ≤ R.locals ∧ (∀ w ∈ ws, ∀ (a' : Array Value) (U : State), s.WarmedH U.vm → w.before a' U = true) ∧ Cond.codeWith y bytes maxL ret hh ∈ ws) ∧
  (Cond.codeWith y bytes maxL ret hh).before args s = true ∧ (Cond.initialized y.cls).before args s = true ∧ (y.cls ≠ "java/lang/invoke/MethodHandle" ∧ y.cls ≠ "java/lang/invoke/VarHandle") ∧
  (∀ sig, parseMethodDescriptor y.desc = some sig → n = sig.parameters.length) ∧ (Cond.methodLink own index y).before args s = true ∧ (Cond.static y).before args s = true
theorem vx_cwSW {own : String} {index maxL mc ms : Nat} {y : MethodName} {bytes : ByteArray} {ret : Option FieldType} {hh : List (Nat × Nat × Nat × Nat)} {Ts ws ws' : List Cond} {rm : Room} (n : Nat) (ht : ∀ w ∈ Ts, w.before args s = true) (hT : GoodIn Ts (va_wsS own index y ws)) (hw : ws = Cond.codeWith y bytes maxL ret hh :: ws') (hrc : rm.cells = mc) (hrs : rm.slots = ms)
    (hd : y.cls ≠ "java/lang/invoke/MethodHandle" ∧ y.cls ≠ "java/lang/invoke/VarHandle" ∧ (parseMethodDescriptor y.desc).map (fun d => d.parameters.length) = some n) (hR : rm.frames + 1 ≤ R.frames ∧ 8 + (maxL + 11) + rm.locals ≤ R.locals) :
    vx_CSW R s args own index y bytes maxL ret hh ws rm mc ms n := by
  have ok : ∀ w ∈ va_wsS own index y ws, w.before args s = true := fun w h => ht w (hT w h).1
  have hG : GoodIn Ts ws := fun w h => hT w (by unfold va_wsS; exact List.mem_append_right _ h)
  have hc : Cond.codeWith y bytes maxL ret hh ∈ ws := by rw [hw]; exact List.mem_cons_self
  refine ⟨⟨hrc, hrs, hR.1, hR.2, pay_in ht hG, hc⟩, ht _ (hG _ hc).1, ok _ (by simp [va_wsS]), ⟨hd.1, hd.2.1⟩, fun sig h => ?_, ok _ (by simp [va_wsS]), ok _ (by simp [va_wsS])⟩
  have h2 := hd.2.2
  rw [h] at h2
  exact (Option.some.inj h2).symm
theorem vx_callSW (X : Stand p l e R s m args below meth c T locs cells slots) (hexec : p.tables.exec = Jvm.exec) {own : String} {index : Nat} {y : MethodName} {bytes : ByteArray} {maxL : Nat} {ret : Option FieldType} {hh : List (Nat × Nat × Nat × Nat)}
    (hown : s.vm.findClass own = some m.cls) (hlink : (Cond.methodLink own index y).before args s = true) (hstat : (Cond.static y).before args s = true) (hinit : (Cond.initialized y.cls).before args s = true)
    (hcode : (Cond.codeWith y bytes maxL ret hh).before args s = true) (hy : y.cls ≠ "java/lang/invoke/MethodHandle" ∧ y.cls ≠ "java/lang/invoke/VarHandle")
    {W9 : Nat} {Pre : Pt → Array Value → Prop} {Post : Pt → Array Value → Option Value → Pt → Prop} (hK : Back l R p e below s args y 3 W9 Pre Post)
    {g : JFrame} (hg : g.method = m) (hsize : g.locals.size = c.maxLocals) {argsL rest : List Value} (hlen : ∀ sig, parseMethodDescriptor y.desc = some sig → argsL.length = sig.parameters.length)
    (hstack : g.stack = argsL.reverse ++ rest) (hW : 2 * g.monitorRoom + (rest.map fun v => v.category).sum ≤ W9) (hdg : decode c.code g.pc = .ok (.invokestatic index, 3))
    (hpre : ∀ vm₁, s.WarmedH vm₁ → Pre ⟨T.setVm vm₁, locs, cells, slots⟩ argsL.toArray) :
    ∃ (v : Option Value) (vm₁ : Vm) (B : Pt), s.WarmedH vm₁ ∧ Stand p l e R s m args below meth c B.U B.locs B.cells B.slots ∧ Post ⟨T.setVm vm₁, locs, cells, slots⟩ argsL.toArray v B ∧
      ∀ target, Steps p.tables e below (B.U.setTop { g with pc := g.pc + 3, stack := v.toList ++ rest }) target → Steps p.tables e below (T.setTop g) target := by
  obtain ⟨mk, methM, cM, hnamed, hmethM, -, -, -, -, -, -, hsigM⟩ := Cond.codeWith_spec hcode
  have hstatic : methM.isStatic = true := Cond.static_spec hnamed hmethM hstat
  obtain ⟨kP, hkP, -⟩ := className_of_methodNamed hnamed
  have hinitP : kP.init = .initialized := Cond.initialized_spec (findClass_of_methodNamed hnamed) hkP hinit
  obtain ⟨vm₁, X₁, hstep₁⟩ := X.invokestatic hexec hown hlink hnamed hmethM hstatic hkP hinitP hy (g := g) hg (argsL := argsL) (rest := rest) (hlen _ hsigM) hstack hdg
  obtain ⟨v, B, X', hpost, hsteps⟩ := hK m meth c ⟨T.setVm vm₁, locs, cells, slots⟩ { g with stack := rest } (.invokestatic index) mk argsL.toArray X₁ hg hsize hdg hW (X₁.named hnamed) (hpre vm₁ X₁.warmed)
  exact ⟨v, vm₁, B, X₁.warmed, X', hpost, fun target h => hstep₁ _ fun acts => by rw [doInvoke_state]; exact hsteps.trans h⟩
theorem vx_runSW {y : MethodName} {bytes cc : ByteArray} {maxL nL mc ms n index : Nat} {ret : Option FieldType} {hh : List (Nat × Nat × Nat × Nat)} {ws : List Cond} {rm : Room} {Pc : Array Value → State → Prop} {Qc : Array Value → State → Outcome → State → Prop} {free : Addr → Prop} {Ts : List Cond} {own : String} {As rest : List Value} {g : JFrame}
    (S : CallFix p m c cc nL s args Ts own) (hM : Met l y ws rm Pc Qc mc ms free) (cw : vx_CSW R s args own index y bytes maxL ret hh ws rm mc ms n) (hp : PreS s H Pc As)
    (hg : g.method = m) (hn : As.length = n) (hsize : g.locals.size = nL) (hstack : g.stack = As.reverse ++ rest) (hW : 2 * g.monitorRoom + (rest.map fun v => v.category).sum ≤ 8) (hdg : decode cc g.pc = .ok (.invokestatic index, 3)) (hf : cells + mc ≤ R.cells ∧ slots + ms ≤ R.slots) :
    va_Run p l e R s m args below meth c H locs cells slots mc ms g rest (Qc As.toArray) (free) := by
  obtain ⟨⟨hrc, hrs, hfr, hlo, hws, hcw⟩, hcode, hini, hy, hlen, hl, hstt⟩ := cw
  have hK : Back l R p e below s args y 3 8 (PreOf R mc ms Pc) (PostOf Qc mc ms free) := va_backW (hh := hh) (bytes := bytes) (maxL := maxL) (ret := ret) hM hp.1 hrc hrs hfr hlo hws hcw (fun a' U hW => word_at hW (Or.inl (by first | rfl | simp [Cond.onTables, Cond.keeps, Cond.steady])) hini)
  obtain ⟨hx, hb, hml, ho, -⟩ := S
  intro T hT X
  obtain ⟨v, vm₁, ⟨U', l2, c2, s2⟩, hW₁, X', ⟨g', mk, t, L, e1, e2, hq, h1, hL, h2, h3⟩, st⟩ := vx_callSW X hx (hh := hh) (bytes := bytes) (maxL := maxL) (ret := ret) ho hl hstt hini hcode hy hK hg (hsize.trans hml.symm) (argsL := As) (rest := rest) (fun sig h => hn.trans (hlen sig h)) hstack hW (by rw [hb]; exact hdg)
    (fun vm₁ hW₁ => ⟨hf.1, hf.2, hp.2 (T.setVm vm₁) hT hW₁⟩)
  dsimp only [Pt.U, Pt.locs, Pt.cells, Pt.slots] at X' e1 e2 h1 h2 h3 st
  subst h1; subst h2; subst h3
  exact ⟨v, (T.setVm vm₁).calling g' mk As.toArray, t, U', L, hT, X', hL, e1, e2, hq, st⟩
/-- not caught here, past rows that name other classes: it goes on to the caller -/
theorem vx_outP {p : Program} {l : Launch} {e : Env} {R : Room} {s : State} {m : MethodId} {args : Array Value} {below : List Frame} {meth : Method} {c : Code} {H : Heap} {locs : List Loc} {cells slots : Nat} {free : Addr → Prop} {ls : Array Slot} {rest : List Value} {Qc : Array Value → State → Outcome → State → Prop} {XC : String → State → State → Prop}
    {pc : Nat} {own E : String} {ce : Cell} {q : Addr} {mc ms : Nat} (hown : s.vm.findClass own = some m.cls) (hlocks : meth.locks = false)
    (hpass : ∀ z ∈ c.exceptionTable.toList, covers z pc = false ∨ (z.catchType ≠ 0 ∧ ∃ nm : String, (Cond.classLink own z.catchType nm).before args s = true ∧ va_Nc E nm s)) (hcell : H[q]? = some ce) (hv : ce.vm = .none) (hcl : s.vm.findClass E = some ce.cls)
    (hx : ∀ t : State, t.heap = H → s.vm.Alike t.vm → XC E s t) (hf : ∀ z ∈ locs, free z.base) (hc : cells ≤ mc) (hs : slots ≤ ms) :
    vx_W p l e R s m args below meth c H locs cells slots (vx_MQ below Qc XC args s mc ms free) (F0 m pc ls rest) q := by
  intro T hT X
  have hpl : e.platform.magicAccessors = ({} : Platform).magicAccessors := by rw [X.admits.platform]
  obtain ⟨vm', hW', X', st⟩ := Stand.outThrough X hlocks q (g := F0 m pc ls rest) rfl rfl rfl (cell := ce) (by rw [hT]; exact hcell) (by rw [hv]; rfl)
    (by obtain ⟨k9, h9, -⟩ := Vm.findClass_spec hcl; exact ⟨k9, h9⟩) (fun z hz => by
      rcases hpass z hz with h | ⟨hz0, nm, hl1, hn1⟩
      · exact Or.inl h
      · obtain ⟨c6, hc6, hcl6⟩ := Cond.classLink_spec hown hl1 e.platform hpl
        obtain ⟨a8, b8, h1, h2, h3⟩ := hn1
        cases Option.some.inj (h1.symm.trans hcl)
        cases Option.some.inj (h2.symm.trans hc6)
        exact Or.inr ⟨hz0, _, hcl6, h3⟩)
  obtain ⟨g₀, hfr⟩ := X'.frames_eq
  have hcell9 : ((T.setVm vm').setFrames (.throwing q :: below)).heap[q]? = some ce := by
    show T.heap[q]? = some ce
    rw [hT]; exact hcell
  have hend : Ended ((T.setVm vm').setFrames (.throwing q :: below)) below (.threw q) := State.frames_setFrames _ (State.cur_lt_of_frames hfr)
  refine ⟨(T.setVm vm').setFrames (.throwing q :: below), ?_, .threw q, X'.here.running, hend, Or.inr ⟨q, rfl, E, ce, locs, hx _ hT (X'.ends _).1.alike, hcell9, hv, hcl, (X'.ends _).1, (X'.ends _).2.mono hc hs, hf⟩⟩
  rw [X.pushThrowing_eq]
  exact st
/-- a thing of a world lies in the heap -/
theorem vx_lt {D : va_G} {cl : List vw_C} {ws : va_W} {H1 : Heap} (h : va_P D cl ws H1) {k : Nat} {q : Nat × va_E} (hk : ws[k]? = some q) : q.1 < H1.size := (h k q hk).lt
end VXS
/-! ===== END ===== -/
/-! ===== BEGIN methods with a table of their own: called by a name, returning or throwing ===== -/
section VXH
/-! vx_backW, vx_callVX, vx_callSX, vx_callVW, vx_runVW, vx_runVX, vx_runSX, vx_ofWH follow the same proofs as their sisters above (Free/Laws.lean, Shelf42/LK1.lean); vx_outP calls Shelf42/NT130.lean (outThrough). -/
section
variable {l : Launch} {R : Room} {p : Program} {e : Env} {below : List Frame} {s : State} {sargs : Array Value} {y : MethodName} {len W9 : Nat}
theorem vx_backW {ws : List Cond} {rm : Room} {Pc : Array Value → State → Prop} {Qc : Array Value → State → Outcome → State → Prop} {XC : String → State → State → Prop} {mc ms : Nat} {free : Addr → Prop} {bytes : ByteArray} {maxL : Nat} {ret : Option FieldType} {hh : List (Nat × Nat × Nat × Nat)}
    (hM : vx_Met l y ws rm Pc Qc XC mc ms free) (hblind : FrameBlind Pc) (hrc : rm.cells = mc) (hrs : rm.slots = ms)
    (hframes : rm.frames + 1 ≤ R.frames) (hlocals : W9 + (maxL + 11) + rm.locals ≤ R.locals)
    (hws : ∀ w ∈ ws, ∀ a' U, s.WarmedH U.vm → w.before a' U = true) (hcode : Cond.codeWith y bytes maxL ret hh ∈ ws) (hinit : ∀ a' U, s.WarmedH U.vm → (Cond.initialized y.cls).before a' U = true) :
    vx_Back l R p e below s sargs y len W9 (PreOf R mc ms Pc) (PostOf Qc mc ms free) (vx_Post XC mc ms free) := by
  intro m meth c A g ig mk a X hg hsize hdg hW hn hp
  have h1 : (headSpec ws rm).pre.before a A.U = true := atoms_intro fun w hw => hws w hw _ _ X.warmed
  have h2 : (Cond.codeWith y bytes maxL ret hh).before a A.U = true := hws _ hcode _ _ X.warmed
  have h3 : (Cond.initialized y.cls).before a A.U = true := hinit _ _ X.warmed
  have h4 : A.cells + (headSpec ws rm).room.cells ≤ R.cells := by rw [show (headSpec ws rm).room.cells = mc from hrc]; exact hp.1
  have h5 : A.slots + (headSpec ws rm).room.slots ≤ R.slots := by rw [show (headSpec ws rm).room.slots = ms from hrs]; exact hp.2.1
  have hPc : Pc a (A.U.calling g mk a) := hblind _ _ _ _ hp.2.2
  obtain ⟨U, Ls, c0, s0⟩ := A
  dsimp only [Pt.U, Pt.locs, Pt.cells, Pt.slots] at h1 h2 h3 h4 h5 X hn hPc ⊢
  obtain ⟨m9, methY, cY, hn9, hmY, hcY, -, hlY, -⟩ := Cond.codeWith_spec h2
  cases Option.some.inj (hn9.symm.trans hn)
  obtain ⟨kY, hkY, -⟩ := className_of_methodNamed hn
  have hinitY : kY.init = .initialized := Cond.initialized_spec (findClass_of_methodNamed hn) hkY h3
  have h : At U g.method c below := by rw [hg]; exact X.here
  have hlocals9 : W9 + (maxL + 11) + (headSpec ws rm).room.locals ≤ R.locals := hlocals
  have happ : (headSpec ws rm).appliesLoose y e.platform (U.calling g mk a) = true :=
    Spec.appliesLoose_calling (g := g) h hdg hn hkY hinitY
      (X.room_calling (g := g) (R' := (headSpec ws rm).room) hsize hmY hcY hframes (by rw [hlY]; omega) h4 h5) h1
  obtain ⟨mid, hmid⟩ := h.above
  have hfr : (U.setTop g).frames = (.java g :: mid) ++ below := by rw [State.frames_setTop' g h.top, hmid]; rfl
  obtain ⟨o, s₂, hsteps, -, hend, hq⟩ := Steps.callFree hM p X.admits X.cas X.clock (acts := []) hfr happ hPc trivial
  have hq' : vx_Q Qc XC mc ms free a (U.calling g mk a) o s₂ := hq
  rw [State.frames_setTop' g h.top] at hend
  obtain ⟨g₀, hg0⟩ := Option.isSome_iff_exists.mp h.top
  obtain ⟨r, hr⟩ := State.topJava?_eq_some.mp hg0
  have hr' : (({ U with heap := s₂.heap, slotsUsed := s₂.slotsUsed } : State).setVm s₂.vm).frames = .java g₀ :: r := hr
  rcases hq' with ⟨hqc, L, hfe, hL⟩ | ⟨q, rfl, E, ce, L, hx, hce, hcv, hcl, hW₂, hsm, hL⟩
  · obtain ⟨⟨v, rfl⟩, hW₂, e2, q2, q3, q4, q5, q6⟩ := id hfe
    have e3 : s₂ = ({ (U.calling g mk a).setFrames s₂.frames with heap := s₂.heap, slotsUsed := s₂.slotsUsed } : State).setVm s₂.vm := by
      have : s₂ = ({ s₂ with vm := (U.calling g mk a).vm } : State).setVm s₂.vm := rfl
      rw [e2] at this
      exact this
    obtain ⟨c₂, i₂, len₂, hc₂, hd₂, hf₂⟩ := hend
    have hW' : U.WarmedH s₂.vm := hW₂
    have hcc : c₂ = c := by
      have h1 : s₂.code? g.method = U.code? g.method := by
        rw [State.code?_eq, State.code?_eq, hW'.alike.method?]
      exact Option.some.inj (hc₂.symm.trans (h1.trans h.code))
    subst hcc
    have hlen : len₂ = len := by rw [hdg] at hd₂; cases hd₂; rfl
    subst hlen
    have hs₂ : s₂ = (({ U with heap := s₂.heap, slotsUsed := s₂.slotsUsed } : State).setVm s₂.vm).setTop { g with pc := g.pc + len₂, stack := v.toList ++ g.stack } := by
      refine e3.trans ?_
      rw [hf₂, State.calling_eq h.top, State.setFrames_setFrames, State.setTop_of_frames _ hr', hr]
      rfl
    have hsame : U.sameButNew ({ U with heap := s₂.heap, slotsUsed := s₂.slotsUsed } : State) L mc ms := by
      refine ⟨?_, q2, q3, q4, q5, q6⟩
      obtain ⟨t, ht, -⟩ := State.frames_cons hr
      show ({ U with heap := s₂.heap, slotsUsed := s₂.slotsUsed } : State) = { U.setFrames U.frames with heap := s₂.heap, slotsUsed := s₂.slotsUsed }
      rw [State.setFrames_self ht]
    subst hg
    refine Or.inl ⟨v, ⟨(({ U with heap := s₂.heap, slotsUsed := s₂.slotsUsed } : State).setVm s₂.vm), Ls ++ L, c0 + mc, s0 + ms⟩,
      ⟨X.admits, X.cas, X.clock, X.frames, X.room, X.hears, X.method, X.code, (X.here.setHeapUsed s₂.heap s₂.slotsUsed).setVm hW'.alike, X.tail, State.WarmedH.trans X.warmed hW', X.limits, X.bytes, X.same.trans (hsame.setVm s.vm)⟩,
      ⟨g, mk, s₂, L, rfl, rfl, hqc, rfl, hL, rfl, rfl⟩, ?_⟩
    show Steps p.tables e below _ ((({ U with heap := s₂.heap, slotsUsed := s₂.slotsUsed } : State).setVm s₂.vm).setTop { g with pc := g.pc + len₂, stack := v.toList ++ g.stack })
    rw [← hs₂]
    exact hsteps
  · obtain ⟨e2, q2, q3, q4, q5, q6⟩ := id hsm
    have e3 : s₂ = ({ (U.calling g mk a).setFrames s₂.frames with heap := s₂.heap, slotsUsed := s₂.slotsUsed } : State).setVm s₂.vm := by
      have : s₂ = ({ s₂ with vm := (U.calling g mk a).vm } : State).setVm s₂.vm := rfl
      rw [e2] at this
      exact this
    have hf₂ : s₂.frames = .throwing q :: .java g :: U.frames.tail := hend
    have hW' : U.WarmedH s₂.vm := hW₂
    have hs₂ : s₂ = ((({ U with heap := s₂.heap, slotsUsed := s₂.slotsUsed } : State).setVm s₂.vm).setTop g).pushFrame (.throwing q) := by
      refine e3.trans ?_
      rw [hf₂, State.calling_eq h.top, State.setFrames_setFrames, State.pushFrame, State.frames_setTop _ hr', State.setTop_of_frames _ hr', State.setFrames_setFrames, hr]
      rfl
    have hsame : U.sameButNew ({ U with heap := s₂.heap, slotsUsed := s₂.slotsUsed } : State) L mc ms := by
      refine ⟨?_, q2, q3, q4, q5, q6⟩
      obtain ⟨t, ht, -⟩ := State.frames_cons hr
      show ({ U with heap := s₂.heap, slotsUsed := s₂.slotsUsed } : State) = { U.setFrames U.frames with heap := s₂.heap, slotsUsed := s₂.slotsUsed }
      rw [State.setFrames_self ht]
    subst hg
    refine Or.inr ⟨q, ⟨(({ U with heap := s₂.heap, slotsUsed := s₂.slotsUsed } : State).setVm s₂.vm), Ls ++ L, c0 + mc, s0 + ms⟩,
      ⟨X.admits, X.cas, X.clock, X.frames, X.room, X.hears, X.method, X.code, (X.here.setHeapUsed s₂.heap s₂.slotsUsed).setVm hW'.alike, X.tail, State.WarmedH.trans X.warmed hW', X.limits, X.bytes, X.same.trans (hsame.setVm s.vm)⟩,
      ⟨g, mk, s₂, L, E, ce, rfl, rfl, hx, hce, hcv, hcl, rfl, hL, rfl, rfl⟩, ?_⟩
    show Steps p.tables e below _ (((({ U with heap := s₂.heap, slotsUsed := s₂.slotsUsed } : State).setVm s₂.vm).setTop g).pushFrame (.throwing q))
    rw [← hs₂]
    exact hsteps
end
variable {p : Program} {l : Launch} {e : Env} {R : Room} {s : State} {m : MethodId} {args : Array Value} {below : List Frame} {meth : Method} {c : Code} {T : State} {H : Heap} {locs : List Loc} {cells slots : Nat}
theorem vx_callVX (X : Stand p l e R s m args below meth c T locs cells slots) (hexec : p.tables.exec = Jvm.exec) {own C : String} {index : Nat} {y : MethodName} {bytes : ByteArray} {maxL : Nat} {ret : Option FieldType} {hh : List (Nat × Nat × Nat × Nat)}
    (hown : s.vm.findClass own = some m.cls) (hlink : (Cond.methodLink own index y).before args s = true) (hinst : (Cond.instanceMethod y).before args s = true) (hsel : (Cond.selects C y y).before args s = true)
    (hcode : (Cond.codeWith y bytes maxL ret hh).before args s = true) (hy : y.cls ≠ "java/lang/invoke/MethodHandle" ∧ y.cls ≠ "java/lang/invoke/VarHandle")
    {W9 : Nat} {Pre : Pt → Array Value → Prop} {Post : Pt → Array Value → Option Value → Pt → Prop} {PostX : Pt → Array Value → Addr → Pt → Prop} (hK : vx_Back l R p e below s args y 3 W9 Pre Post PostX)
    {b : Addr} {cellB : Cell} (hcell : T.heap[b]? = some cellB) (hobj : cellB.vm.isStatics = false) (hcls : s.vm.findClass C = some cellB.cls)
    {g : JFrame} (hg : g.method = m) (hsize : g.locals.size = c.maxLocals) {argsL rest : List Value} (hlen : ∀ sig, parseMethodDescriptor y.desc = some sig → argsL.length = sig.parameters.length)
    (hstack : g.stack = argsL.reverse ++ .ref b :: rest) (hW : 2 * g.monitorRoom + (rest.map fun v => v.category).sum ≤ W9) (hdg : decode c.code g.pc = .ok (.invokevirtual index, 3))
    (hpre : ∀ vm₁, s.WarmedH vm₁ → Pre ⟨T.setVm vm₁, locs, cells, slots⟩ (Value.ref b :: argsL).toArray) :
    (∃ (v : Option Value) (vm₁ : Vm) (B : Pt), s.WarmedH vm₁ ∧ Stand p l e R s m args below meth c B.U B.locs B.cells B.slots ∧ Post ⟨T.setVm vm₁, locs, cells, slots⟩ (Value.ref b :: argsL).toArray v B ∧
      ∀ target, Steps p.tables e below (B.U.setTop { g with pc := g.pc + 3, stack := v.toList ++ rest }) target → Steps p.tables e below (T.setTop g) target) ∨
    (∃ (q : Addr) (vm₁ : Vm) (B : Pt), s.WarmedH vm₁ ∧ Stand p l e R s m args below meth c B.U B.locs B.cells B.slots ∧ PostX ⟨T.setVm vm₁, locs, cells, slots⟩ (Value.ref b :: argsL).toArray q B ∧
      Steps p.tables e below (T.setTop g) ((B.U.setTop { g with stack := rest }).pushFrame (.throwing q))) := by
  obtain ⟨mk, methM, hnamed, hmethM, hstM, habM⟩ := Cond.instanceMethod_spec hinst
  obtain ⟨m8, methM', cM, hn8, hmethM', -, -, -, -, -, -, hsigM⟩ := Cond.codeWith_spec hcode
  cases Option.some.inj (hn8.symm.trans hnamed)
  cases hmethM.symm.trans hmethM'
  obtain ⟨c2, r2, m2, q1, q2, q3, q4, kP, hkP, hkPi⟩ := Cond.selects_spec hsel
  cases hcls.symm.trans q1
  cases (State.methodFound?_of_named hnamed hy).symm.trans q2
  cases hnamed.symm.trans q3
  have hselP : selectMethod e.platform s.vm cellB.cls mk = .method mk := by rw [Launch.admits_selectMethod X.admits]; exact q4
  obtain ⟨vm₁, X₁, hstep₁⟩ := X.invokevirtual hexec hown hlink hnamed hmethM hstM hkP hkPi hy (a := b) (cell := cellB) hcell
    (fun z h => by rw [h] at hobj; cases hobj) hselP hmethM habM hkP hkPi (g := g) hg (argsL := argsL) (rest := rest) (hlen _ hsigM) hstack hdg
  rcases hK m meth c ⟨T.setVm vm₁, locs, cells, slots⟩ { g with stack := rest } (.invokevirtual index) mk (Value.ref b :: argsL).toArray X₁ hg hsize hdg hW (X₁.named hnamed) (hpre vm₁ X₁.warmed) with ⟨v, B, X', hpost, hsteps⟩ | ⟨q, B, X', hpost, hsteps⟩
  · exact Or.inl ⟨v, vm₁, B, X₁.warmed, X', hpost, fun target h => hstep₁ _ fun acts => by rw [doInvoke_state]; exact hsteps.trans h⟩
  · exact Or.inr ⟨q, vm₁, B, X₁.warmed, X', hpost, hstep₁ _ fun acts => by rw [doInvoke_state]; exact hsteps⟩
theorem vx_callSX (X : Stand p l e R s m args below meth c T locs cells slots) (hexec : p.tables.exec = Jvm.exec) {own : String} {index : Nat} {y : MethodName} {bytes : ByteArray} {maxL : Nat} {ret : Option FieldType} {hh : List (Nat × Nat × Nat × Nat)}
    (hown : s.vm.findClass own = some m.cls) (hlink : (Cond.methodLink own index y).before args s = true) (hstat : (Cond.static y).before args s = true) (hinit : (Cond.initialized y.cls).before args s = true)
    (hcode : (Cond.codeWith y bytes maxL ret hh).before args s = true) (hy : y.cls ≠ "java/lang/invoke/MethodHandle" ∧ y.cls ≠ "java/lang/invoke/VarHandle")
    {W9 : Nat} {Pre : Pt → Array Value → Prop} {Post : Pt → Array Value → Option Value → Pt → Prop} {PostX : Pt → Array Value → Addr → Pt → Prop} (hK : vx_Back l R p e below s args y 3 W9 Pre Post PostX)
    {g : JFrame} (hg : g.method = m) (hsize : g.locals.size = c.maxLocals) {argsL rest : List Value} (hlen : ∀ sig, parseMethodDescriptor y.desc = some sig → argsL.length = sig.parameters.length)
    (hstack : g.stack = argsL.reverse ++ rest) (hW : 2 * g.monitorRoom + (rest.map fun v => v.category).sum ≤ W9) (hdg : decode c.code g.pc = .ok (.invokestatic index, 3))
    (hpre : ∀ vm₁, s.WarmedH vm₁ → Pre ⟨T.setVm vm₁, locs, cells, slots⟩ argsL.toArray) :
    (∃ (v : Option Value) (vm₁ : Vm) (B : Pt), s.WarmedH vm₁ ∧ Stand p l e R s m args below meth c B.U B.locs B.cells B.slots ∧ Post ⟨T.setVm vm₁, locs, cells, slots⟩ argsL.toArray v B ∧
      ∀ target, Steps p.tables e below (B.U.setTop { g with pc := g.pc + 3, stack := v.toList ++ rest }) target → Steps p.tables e below (T.setTop g) target) ∨
    (∃ (q : Addr) (vm₁ : Vm) (B : Pt), s.WarmedH vm₁ ∧ Stand p l e R s m args below meth c B.U B.locs B.cells B.slots ∧ PostX ⟨T.setVm vm₁, locs, cells, slots⟩ argsL.toArray q B ∧
      Steps p.tables e below (T.setTop g) ((B.U.setTop { g with stack := rest }).pushFrame (.throwing q))) := by
  obtain ⟨mk, methM, cM, hnamed, hmethM, -, -, -, -, -, -, hsigM⟩ := Cond.codeWith_spec hcode
  have hstatic : methM.isStatic = true := Cond.static_spec hnamed hmethM hstat
  obtain ⟨kP, hkP, -⟩ := className_of_methodNamed hnamed
  have hinitP : kP.init = .initialized := Cond.initialized_spec (findClass_of_methodNamed hnamed) hkP hinit
  obtain ⟨vm₁, X₁, hstep₁⟩ := X.invokestatic hexec hown hlink hnamed hmethM hstatic hkP hinitP hy (g := g) hg (argsL := argsL) (rest := rest) (hlen _ hsigM) hstack hdg
  rcases hK m meth c ⟨T.setVm vm₁, locs, cells, slots⟩ { g with stack := rest } (.invokestatic index) mk argsL.toArray X₁ hg hsize hdg hW (X₁.named hnamed) (hpre vm₁ X₁.warmed) with ⟨v, B, X', hpost, hsteps⟩ | ⟨q, B, X', hpost, hsteps⟩
  · exact Or.inl ⟨v, vm₁, B, X₁.warmed, X', hpost, fun target h => hstep₁ _ fun acts => by rw [doInvoke_state]; exact hsteps.trans h⟩
  · exact Or.inr ⟨q, vm₁, B, X₁.warmed, X', hpost, hstep₁ _ fun acts => by rw [doInvoke_state]; exact hsteps⟩
theorem vx_callVW (X : Stand p l e R s m args below meth c T locs cells slots) (hexec : p.tables.exec = Jvm.exec) {own C : String} {index : Nat} {y : MethodName} {bytes : ByteArray} {maxL : Nat} {ret : Option FieldType} {hh : List (Nat × Nat × Nat × Nat)}
    (hown : s.vm.findClass own = some m.cls) (hlink : (Cond.methodLink own index y).before args s = true) (hinst : (Cond.instanceMethod y).before args s = true) (hsel : (Cond.selects C y y).before args s = true)
    (hcode : (Cond.codeWith y bytes maxL ret hh).before args s = true) (hy : y.cls ≠ "java/lang/invoke/MethodHandle" ∧ y.cls ≠ "java/lang/invoke/VarHandle")
    {W9 : Nat} {Pre : Pt → Array Value → Prop} {Post : Pt → Array Value → Option Value → Pt → Prop} (hK : Back l R p e below s args y 3 W9 Pre Post)
    {b : Addr} {cellB : Cell} (hcell : T.heap[b]? = some cellB) (hobj : cellB.vm.isStatics = false) (hcls : s.vm.findClass C = some cellB.cls)
    {g : JFrame} (hg : g.method = m) (hsize : g.locals.size = c.maxLocals) {argsL rest : List Value} (hlen : ∀ sig, parseMethodDescriptor y.desc = some sig → argsL.length = sig.parameters.length)
    (hstack : g.stack = argsL.reverse ++ .ref b :: rest) (hW : 2 * g.monitorRoom + (rest.map fun v => v.category).sum ≤ W9) (hdg : decode c.code g.pc = .ok (.invokevirtual index, 3))
    (hpre : ∀ vm₁, s.WarmedH vm₁ → Pre ⟨T.setVm vm₁, locs, cells, slots⟩ (Value.ref b :: argsL).toArray) :
    ∃ (v : Option Value) (vm₁ : Vm) (B : Pt), s.WarmedH vm₁ ∧ Stand p l e R s m args below meth c B.U B.locs B.cells B.slots ∧ Post ⟨T.setVm vm₁, locs, cells, slots⟩ (Value.ref b :: argsL).toArray v B ∧
      ∀ target, Steps p.tables e below (B.U.setTop { g with pc := g.pc + 3, stack := v.toList ++ rest }) target → Steps p.tables e below (T.setTop g) target := by
  obtain ⟨mk, methM, hnamed, hmethM, hstM, habM⟩ := Cond.instanceMethod_spec hinst
  obtain ⟨m8, methM', cM, hn8, hmethM', -, -, -, -, -, -, hsigM⟩ := Cond.codeWith_spec hcode
  cases Option.some.inj (hn8.symm.trans hnamed)
  cases hmethM.symm.trans hmethM'
  obtain ⟨c2, r2, m2, q1, q2, q3, q4, kP, hkP, hkPi⟩ := Cond.selects_spec hsel
  cases hcls.symm.trans q1
  cases (State.methodFound?_of_named hnamed hy).symm.trans q2
  cases hnamed.symm.trans q3
  have hselP : selectMethod e.platform s.vm cellB.cls mk = .method mk := by rw [Launch.admits_selectMethod X.admits]; exact q4
  obtain ⟨vm₁, X₁, hstep₁⟩ := X.invokevirtual hexec hown hlink hnamed hmethM hstM hkP hkPi hy (a := b) (cell := cellB) hcell
    (fun z h => by rw [h] at hobj; cases hobj) hselP hmethM habM hkP hkPi (g := g) hg (argsL := argsL) (rest := rest) (hlen _ hsigM) hstack hdg
  obtain ⟨v, B, X', hpost, hsteps⟩ := hK m meth c ⟨T.setVm vm₁, locs, cells, slots⟩ { g with stack := rest } (.invokevirtual index) mk (Value.ref b :: argsL).toArray X₁ hg hsize hdg hW (X₁.named hnamed) (hpre vm₁ X₁.warmed)
  exact ⟨v, vm₁, B, X₁.warmed, X', hpost, fun target h => hstep₁ _ fun acts => by rw [doInvoke_state]; exact hsteps.trans h⟩
abbrev vx_CVW (R : Room) (s : State) (args : Array Value) (own C : String) (index : Nat) (y : MethodName) (bytes : ByteArray) (maxL : Nat) (ret : Option FieldType) (hh : List (Nat × Nat × Nat × Nat)) (ws : List Cond) (rm : Room) (mc ms n : Nat) : Prop :=
  (rm.cells = mc ∧ rm.slots = ms ∧ rm.frames + 1 ≤ R.frames ∧ 8 + (maxL + 11) + rm.locals ≤ R.locals ∧ (∀ w ∈ ws, ∀ (a' : Array Value) (U : State), s.WarmedH U.vm → w.before a' U = true) ∧ Cond.codeWith y bytes maxL ret hh ∈ ws) ∧
  (Cond.codeWith y bytes maxL ret hh).before args s = true ∧ (Cond.initialized y.cls).before args s = true ∧ (y.cls ≠ "java/lang/invoke/MethodHandle" ∧ y.cls ≠ "java/lang/invoke/VarHandle") ∧
  (∀ sig, parseMethodDescriptor y.desc = some sig → n = sig.parameters.length) ∧ (Cond.methodLink own index y).before args s = true ∧ (Cond.instanceMethod y).before args s = true ∧ (Cond.selects C y y).before args s = true
theorem vx_cwVW {own C : String} {index maxL mc ms : Nat} {y : MethodName} {bytes : ByteArray} {ret : Option FieldType} {hh : List (Nat × Nat × Nat × Nat)} {Ts ws ws' : List Cond} {rm : Room} (n : Nat) (ht : ∀ w ∈ Ts, w.before args s = true) (hT : GoodIn Ts (wsV own index C y ws)) (hw : ws = Cond.codeWith y bytes maxL ret hh :: ws') (hrc : rm.cells = mc) (hrs : rm.slots = ms)
    (hd : y.cls = C ∧ y.cls ≠ "java/lang/invoke/MethodHandle" ∧ y.cls ≠ "java/lang/invoke/VarHandle" ∧ (parseMethodDescriptor y.desc).map (fun d => d.parameters.length) = some n) (hR : rm.frames + 1 ≤ R.frames ∧ 8 + (maxL + 11) + rm.locals ≤ R.locals) :
    vx_CVW R s args own C index y bytes maxL ret hh ws rm mc ms n := by
  obtain ⟨hC, hd⟩ := hd
  subst hC
  have ok : ∀ w ∈ wsV own index y.cls y ws, w.before args s = true := fun w h => ht w (hT w h).1
  have hG : GoodIn Ts ws := fun w h => hT w (by unfold wsV; exact List.mem_append_right _ h)
  have hc : Cond.codeWith y bytes maxL ret hh ∈ ws := by rw [hw]; exact List.mem_cons_self
  refine ⟨⟨hrc, hrs, hR.1, hR.2, pay_in ht hG, hc⟩, ht _ (hG _ hc).1, ok _ (by simp [wsV]), ⟨hd.1, hd.2.1⟩, fun sig h => ?_, ok _ (by simp [wsV]), ok _ (by simp [wsV]), ok _ (by simp [wsV])⟩
  have h2 := hd.2.2
  rw [h] at h2
  exact (Option.some.inj h2).symm
theorem vx_runVW {y : MethodName} {bytes cc : ByteArray} {maxL nL mc ms n index : Nat} {ret : Option FieldType} {hh : List (Nat × Nat × Nat × Nat)} {ws : List Cond} {rm : Room} {Pc : Array Value → State → Prop} {Qc : Array Value → State → Outcome → State → Prop} {free : Addr → Prop} {Ts : List Cond} {own C : String} {b : Addr} {As rest : List Value} {g : JFrame}
    (S : CallFix p m c cc nL s args Ts own) (hM : Met l y ws rm Pc Qc mc ms free) (cw : vx_CVW R s args own C index y bytes maxL ret hh ws rm mc ms n) (hp : PreV s H C b Pc As)
    (hg : g.method = m) (hn : As.length = n) (hsize : g.locals.size = nL) (hstack : g.stack = As.reverse ++ .ref b :: rest) (hW : 2 * g.monitorRoom + (rest.map fun v => v.category).sum ≤ 8) (hdg : decode cc g.pc = .ok (.invokevirtual index, 3)) (hf : cells + mc ≤ R.cells ∧ slots + ms ≤ R.slots) :
    va_Run p l e R s m args below meth c H locs cells slots mc ms g rest (Qc (Value.ref b :: As).toArray) free := by
  obtain ⟨⟨hrc, hrs, hfr, hlo, hws, hcw⟩, hcode, hini, hy, hlen, hl, hin, hse⟩ := cw
  have hK : Back l R p e below s args y 3 8 (PreOf R mc ms Pc) (PostOf Qc mc ms free) := va_backW (hh := hh) (bytes := bytes) (maxL := maxL) (ret := ret) hM hp.1 hrc hrs hfr hlo hws hcw (fun a' U hW => word_at hW (Or.inl (by first | rfl | simp [Cond.onTables, Cond.keeps, Cond.steady])) hini)
  obtain ⟨hx, hb, hml, ho, -⟩ := S
  obtain ⟨-, ⟨cellB, hcB, hoB, hclB⟩, hPc⟩ := hp
  intro T hT X
  obtain ⟨v, vm₁, ⟨U', l2, c2, s2⟩, hW₁, X', ⟨g', mk, t, L, e1, e2, hq, h1, hL, h2, h3⟩, st⟩ := vx_callVW X hx (C := C) (hh := hh) (bytes := bytes) (maxL := maxL) (ret := ret) ho hl hin hse hcode hy hK (by rw [hT]; exact hcB) hoB hclB hg (hsize.trans hml.symm) (argsL := As) (rest := rest) (fun sig h => hn.trans (hlen sig h)) hstack hW (by rw [hb]; exact hdg)
    (fun vm₁ hW₁ => ⟨hf.1, hf.2, hPc (T.setVm vm₁) hT hW₁⟩)
  dsimp only [Pt.U, Pt.locs, Pt.cells, Pt.slots] at X' e1 e2 h1 h2 h3 st
  subst h1; subst h2; subst h3
  exact ⟨v, (T.setVm vm₁).calling g' mk (Value.ref b :: As).toArray, t, U', L, hT, X', hL, e1, e2, hq, st⟩
section
variable {y : MethodName} {bytes cc : ByteArray} {maxL nL mc ms n index : Nat} {ret : Option FieldType} {ws : List Cond} {rm : Room} {Pc : Array Value → State → Prop} {Qc : Array Value → State → Outcome → State → Prop} {XC : String → State → State → Prop} {free : Addr → Prop} {Ts : List Cond} {own C : String} {b : Addr} {As rest : List Value} {g : JFrame}
theorem vx_runVX {hh : List (Nat × Nat × Nat × Nat)} (S : CallFix p m c cc nL s args Ts own) (hM : vx_Met l y ws rm Pc Qc XC mc ms free) (cw : vx_CVW R s args own C index y bytes maxL ret hh ws rm mc ms n) (hp : PreV s H C b Pc As)
    (hg : g.method = m) (hn : As.length = n) (hsize : g.locals.size = nL) (hstack : g.stack = As.reverse ++ .ref b :: rest) (hW : 2 * g.monitorRoom + (rest.map fun v => v.category).sum ≤ 8) (hdg : decode cc g.pc = .ok (.invokevirtual index, 3)) (hf : cells + mc ≤ R.cells ∧ slots + ms ≤ R.slots) :
    vx_Run p l e R s m args below meth c H locs cells slots mc ms g rest (Qc (Value.ref b :: As).toArray) XC free := by
  obtain ⟨⟨hrc, hrs, hfr, hlo, hws, hcw⟩, hcode, hini, hy, hlen, hl, hin, hse⟩ := cw
  have hK : vx_Back l R p e below s args y 3 8 (PreOf R mc ms Pc) (PostOf Qc mc ms free) (vx_Post XC mc ms free) := vx_backW (hh := hh) (bytes := bytes) (maxL := maxL) (ret := ret) hM hp.1 hrc hrs hfr hlo hws hcw (fun a' U hW => word_at hW (Or.inl (by first | rfl | simp [Cond.onTables, Cond.keeps, Cond.steady])) hini)
  obtain ⟨hx, hb, hml, ho, -⟩ := S
  obtain ⟨-, ⟨cellB, hcB, hoB, hclB⟩, hPc⟩ := hp
  intro T hT X
  rcases vx_callVX X hx (C := C) (hh := hh) (bytes := bytes) (maxL := maxL) (ret := ret) ho hl hin hse hcode hy hK (by rw [hT]; exact hcB) hoB hclB hg (hsize.trans hml.symm) (argsL := As) (rest := rest) (fun sig h => hn.trans (hlen sig h)) hstack hW (by rw [hb]; exact hdg)
    (fun vm₁ hW₁ => ⟨hf.1, hf.2, hPc (T.setVm vm₁) hT hW₁⟩) with ⟨v, vm₁, ⟨U', l2, c2, s2⟩, hW₁, X', ⟨g', mk, t, L, e1, e2, hq, h1, hL, h2, h3⟩, st⟩ | ⟨q, vm₁, ⟨U', l2, c2, s2⟩, hW₁, X', ⟨g', mk, t, L, E, ce, e1, e2, hq, hce, hcv, hcl, h1, hL, h2, h3⟩, st⟩
  · dsimp only [Pt.U, Pt.locs, Pt.cells, Pt.slots] at X' e1 e2 h1 h2 h3 st
    subst h1; subst h2; subst h3
    exact Or.inl ⟨v, (T.setVm vm₁).calling g' mk (Value.ref b :: As).toArray, t, U', L, hT, X', hL, e1, e2, hq, st⟩
  · dsimp only [Pt.U, Pt.locs, Pt.cells, Pt.slots] at X' e1 e2 h1 h2 h3 st hcl
    subst h1; subst h2; subst h3
    exact Or.inr ⟨q, (T.setVm vm₁).calling g' mk (Value.ref b :: As).toArray, t, U', L, E, ce, hT, X', hL, e1, e2, hq, hce, hcv, vx_cls hW₁ hcl, st⟩
theorem vx_runSX {hh : List (Nat × Nat × Nat × Nat)} (S : CallFix p m c cc nL s args Ts own) (hM : vx_Met l y ws rm Pc Qc XC mc ms free) (cw : vx_CSW R s args own index y bytes maxL ret hh ws rm mc ms n) (hp : PreS s H Pc As)
    (hg : g.method = m) (hn : As.length = n) (hsize : g.locals.size = nL) (hstack : g.stack = As.reverse ++ rest) (hW : 2 * g.monitorRoom + (rest.map fun v => v.category).sum ≤ 8) (hdg : decode cc g.pc = .ok (.invokestatic index, 3)) (hf : cells + mc ≤ R.cells ∧ slots + ms ≤ R.slots) :
    vx_Run p l e R s m args below meth c H locs cells slots mc ms g rest (Qc As.toArray) XC free := by
  obtain ⟨⟨hrc, hrs, hfr, hlo, hws, hcw⟩, hcode, hini, hy, hlen, hl, hstt⟩ := cw
  have hK : vx_Back l R p e below s args y 3 8 (PreOf R mc ms Pc) (PostOf Qc mc ms free) (vx_Post XC mc ms free) := vx_backW (hh := hh) (bytes := bytes) (maxL := maxL) (ret := ret) hM hp.1 hrc hrs hfr hlo hws hcw (fun a' U hW => word_at hW (Or.inl (by first | rfl | simp [Cond.onTables, Cond.keeps, Cond.steady])) hini)
  obtain ⟨hx, hb, hml, ho, -⟩ := S
  intro T hT X
  rcases vx_callSX X hx (hh := hh) (bytes := bytes) (maxL := maxL) (ret := ret) ho hl hstt hini hcode hy hK hg (hsize.trans hml.symm) (argsL := As) (rest := rest) (fun sig h => hn.trans (hlen sig h)) hstack hW (by rw [hb]; exact hdg)
    (fun vm₁ hW₁ => ⟨hf.1, hf.2, hp.2 (T.setVm vm₁) hT hW₁⟩) with ⟨v, vm₁, ⟨U', l2, c2, s2⟩, hW₁, X', ⟨g', mk, t, L, e1, e2, hq, h1, hL, h2, h3⟩, st⟩ | ⟨q, vm₁, ⟨U', l2, c2, s2⟩, hW₁, X', ⟨g', mk, t, L, E, ce, e1, e2, hq, hce, hcv, hcl, h1, hL, h2, h3⟩, st⟩
  · dsimp only [Pt.U, Pt.locs, Pt.cells, Pt.slots] at X' e1 e2 h1 h2 h3 st
    subst h1; subst h2; subst h3
    exact Or.inl ⟨v, (T.setVm vm₁).calling g' mk As.toArray, t, U', L, hT, X', hL, e1, e2, hq, st⟩
  · dsimp only [Pt.U, Pt.locs, Pt.cells, Pt.slots] at X' e1 e2 h1 h2 h3 st hcl
    subst h1; subst h2; subst h3
    exact Or.inr ⟨q, (T.setVm vm₁).calling g' mk As.toArray, t, U', L, E, ce, hT, X', hL, e1, e2, hq, hce, hcv, vx_cls hW₁ hcl, st⟩
end
end VXH
theorem vx_ofWH {l : Launch} {y : MethodName} {ws ws' : List Cond} {rm : Room} {Pc : Array Value → State → Prop} {Qc : Array Value → State → Outcome → State → Prop} {XC : String → State → State → Prop} {mc ms : Nat} {free : Addr → Prop} {cc : ByteArray} {maxL : Nat} {ret : Option FieldType} {hh : List (Nat × Nat × Nat × Nat)}
    (hy : plainName y.cls = true) (hw : ws = Cond.codeWith y cc maxL ret hh :: ws')
    (body : ∀ p e s m args below meth c s₁, BodyLoose p l y (headSpec ws rm) cc maxL ret e s m args below meth c s₁ → c.maxLocals = maxL → Pc args s →
      W p l e (headSpec ws rm).room s m args below meth c s.heap [] 0 0 (vx_MQ below Qc XC args s mc ms free) (entryFrame m args maxL)) : vx_Met l y ws rm Pc Qc XC mc ms free := by
  refine MetFree.of_bodyS (code := cc) (maxLocals := maxL) (ret := ret) hy ?_ ?_
  · intro args s m h hn
    obtain ⟨m9, meth, c, hn9, h1, h2, h3, h4, -, h5, h6, -⟩ := Cond.codeWith_spec (atoms_spec (ws := ws) h _ (by rw [hw]; exact List.mem_cons_self))
    cases hn.symm.trans hn9
    exact ⟨meth, c, h1, h2, h3, h4, h5, h6⟩
  · intro p e s m args below meth c s₁ B hml hP _
    have hh0 : s₁.heap = s.heap := by rw [B.state]; rfl
    obtain ⟨t, a1, o, b1, b2, b3⟩ := body p e s m args below meth c s₁ B hml hP s₁ hh0 (Stand.of_body B)
    exact ⟨t, o, a1, b1, b2, b3⟩
/-! ===== END ===== -/
end
section
/-! ===== BEGIN printed: names, fields, word lists, decode rows ===== -/
def RX0 : String := "BoundTables$Asker"
def TX0 : u_T := fun k => match k with
  | 0 => ("BoundTables$Asker", "types", "LBoundTables$Types;", true)
  | 1 => ("BoundTables$Asker", "newBoundCount", "[I", true)
  | 2 => ("BoundTables$Asker", "newBound", "[I", true)
  | 3 => ("BoundTables$Asker", "newFloor", "[I", true)
  | 4 => ("BoundTables$Asker", "ownArgs", "[I", true)
  | 5 => ("BoundTables$Asker", "ownBound", "[I", true)
  | 6 => ("BoundTables$Asker", "frames", "[I", true)
  | 7 => ("BoundTables$Asker", "table", "LBoundTables$Table;", false)
  | 8 => ("BoundTables$Asker", "ownFirst", "I", false)
  | 9 => ("BoundTables$Asker", "any", "I", false)
  | 10 => ("BoundTables$Asker", "fuel", "I", false)
  | 11 => ("BoundTables$Asker", "asked", "I", false)
  | 12 => ("BoundTables$Asker", "deepest", "I", false)
  | 13 => ("BoundTables$Asker", "newCount", "I", false)
  | _ => ("BoundTables$Asker", "together", "I", false)
def tyX0 : Nat → FieldType := fun k => match k with
  | 0 => .object "BoundTables$Types"
  | 1 => .array .int
  | 2 => .array .int
  | 3 => .array .int
  | 4 => .array .int
  | 5 => .array .int
  | 6 => .array .int
  | 7 => .object "BoundTables$Table"
  | 8 => .int
  | 9 => .int
  | 10 => .int
  | 11 => .int
  | 12 => .int
  | 13 => .int
  | _ => .int
abbrev wsX00 : List Cond := u_ws RX0 TX0 15
theorem nmX0 : ∀ a, a < 15 → ∀ b, b < 15 → a ≠ b → (TX0 a).2.1 ≠ (TX0 b).2.1 := by decide +kernel
theorem tyX0_ok : ∀ k, k < 15 → parseFieldDescriptor (TX0 k).2.2.1 = some (tyX0 k) := by decide +kernel
abbrev cX0_init : ByteArray := prog_2_method_1_code
def yX0_init : MethodName := ⟨RX0, "<init>", "(LBoundTables$Table;)V"⟩
abbrev cX0_startOver : ByteArray := prog_2_method_2_code
def yX0_startOver : MethodName := ⟨RX0, "startOver", "(LBoundTables$Table;I)V"⟩
abbrev cX0_tellOwnBounds : ByteArray := prog_2_method_3_code
def yX0_tellOwnBounds : MethodName := ⟨RX0, "tellOwnBounds", "(I)V"⟩
abbrev cX0_nodeOf : ByteArray := prog_2_method_4_code
def yX0_nodeOf : MethodName := ⟨RX0, "nodeOf", "([III)I"⟩
abbrev cX0_nodeAbove : ByteArray := prog_2_method_5_code
def yX0_nodeAbove : MethodName := ⟨RX0, "nodeAbove", "(II)I"⟩
abbrev cX0_below : ByteArray := prog_2_method_6_code
def yX0_below : MethodName := ⟨RX0, "below", "(III)I"⟩
abbrev cX0_boundsBelow : ByteArray := prog_2_method_7_code
def yX0_boundsBelow : MethodName := ⟨RX0, "boundsBelow", "(III)I"⟩
abbrev cX0_classBelow : ByteArray := prog_2_method_8_code
def yX0_classBelow : MethodName := ⟨RX0, "classBelow", "(III)I"⟩
abbrev cX0_argBelow : ByteArray := prog_2_method_9_code
def yX0_argBelow : MethodName := ⟨RX0, "argBelow", "(III)I"⟩
abbrev cX0_captureArgs : ByteArray := prog_2_method_10_code
def yX0_captureArgs : MethodName := ⟨RX0, "captureArgs", "(II)Z"⟩
abbrev cX0_bind : ByteArray := prog_2_method_11_code
def yX0_bind : MethodName := ⟨RX0, "bind", "(III)Z"⟩
abbrev cX0_addBound : ByteArray := prog_2_method_12_code
def yX0_addBound : MethodName := ⟨RX0, "addBound", "(II)V"⟩
abbrev cX0_raise : ByteArray := prog_2_method_13_code
def yX0_raise : MethodName := ⟨RX0, "raise", "(III)I"⟩
abbrev cX0_count : ByteArray := prog_2_method_14_code
def yX0_count : MethodName := ⟨RX0, "count", "(I)Z"⟩
abbrev cX0_floorOf : ByteArray := prog_2_method_15_code
def yX0_floorOf : MethodName := ⟨RX0, "floorOf", "(I)I"⟩
abbrev cX0_boundOf : ByteArray := prog_2_method_16_code
def yX0_boundOf : MethodName := ⟨RX0, "boundOf", "(II)I"⟩
abbrev cX0_boundOfNew : ByteArray := prog_2_method_17_code
def yX0_boundOfNew : MethodName := ⟨RX0, "boundOfNew", "(II)I"⟩
def RX1 : String := "BoundTables$Overs"
def TX1 : u_T := fun k => match k with
  | 0 => ("BoundTables$Overs", "start", "[I", true)
  | 1 => ("BoundTables$Overs", "length", "[I", true)
  | 2 => ("BoundTables$Overs", "argStart", "[I", true)
  | 3 => ("BoundTables$Overs", "argLength", "[I", true)
  | 4 => ("BoundTables$Overs", "args", "I", false)
  | 5 => ("BoundTables$Overs", "code", "[I", false)
  | _ => ("BoundTables$Overs", "used", "I", false)
def tyX1 : Nat → FieldType := fun k => match k with
  | 0 => .array .int
  | 1 => .array .int
  | 2 => .array .int
  | 3 => .array .int
  | 4 => .int
  | 5 => .array .int
  | _ => .int
abbrev wsX10 : List Cond := u_ws RX1 TX1 7
theorem nmX1 : ∀ a, a < 7 → ∀ b, b < 7 → a ≠ b → (TX1 a).2.1 ≠ (TX1 b).2.1 := by decide +kernel
theorem tyX1_ok : ∀ k, k < 7 → parseFieldDescriptor (TX1 k).2.2.1 = some (tyX1 k) := by decide +kernel
abbrev cX1_init : ByteArray := prog_3_method_1_code
def yX1_init : MethodName := ⟨RX1, "<init>", "()V"⟩
abbrev cX1_startOver : ByteArray := prog_3_method_2_code
def yX1_startOver : MethodName := ⟨RX1, "startOver", "()V"⟩
abbrev cX1_startArgs : ByteArray := prog_3_method_3_code
def yX1_startArgs : MethodName := ⟨RX1, "startArgs", "()V"⟩
abbrev cX1_addArg : ByteArray := prog_3_method_4_code
def yX1_addArg : MethodName := ⟨RX1, "addArg", "(II)V"⟩
abbrev cX1_addOwn : ByteArray := prog_3_method_5_code
def yX1_addOwn : MethodName := ⟨RX1, "addOwn", "(III)V"⟩
abbrev cX1_addAny : ByteArray := prog_3_method_6_code
def yX1_addAny : MethodName := ⟨RX1, "addAny", "(I)V"⟩
abbrev cX1_inherit : ByteArray := prog_3_method_7_code
def yX1_inherit : MethodName := ⟨RX1, "inherit", "(III[I)Z"⟩
abbrev cX1_sizeWithArgs : ByteArray := prog_3_method_8_code
def yX1_sizeWithArgs : MethodName := ⟨RX1, "sizeWithArgs", "(II)I"⟩
abbrev cX1_writeArg : ByteArray := prog_3_method_9_code
def yX1_writeArg : MethodName := ⟨RX1, "writeArg", "(I[I)V"⟩
abbrev cX1_isSame : ByteArray := prog_3_method_10_code
def yX1_isSame : MethodName := ⟨RX1, "isSame", "(IIII)Z"⟩
abbrev cX1_makeRoom : ByteArray := prog_3_method_11_code
def yX1_makeRoom : MethodName := ⟨RX1, "makeRoom", "(I)V"⟩
abbrev cX1_write : ByteArray := prog_3_method_12_code
def yX1_write : MethodName := ⟨RX1, "write", "(I)V"⟩
def RX2 : String := "BoundTables$Page"
def TX2 : u_T := fun k => match k with
  | 0 => ("BoundTables$Page", "bytes", "[I", true)
  | 1 => ("BoundTables$Page", "openNode", "[I", true)
  | 2 => ("BoundTables$Page", "openNext", "[I", true)
  | 3 => ("BoundTables$Page", "length", "I", false)
  | _ => ("BoundTables$Page", "open", "I", false)
def tyX2 : Nat → FieldType := fun k => match k with
  | 0 => .array .int
  | 1 => .array .int
  | 2 => .array .int
  | 3 => .int
  | _ => .int
abbrev wsX20 : List Cond := u_ws RX2 TX2 5
theorem nmX2 : ∀ a, a < 5 → ∀ b, b < 5 → a ≠ b → (TX2 a).2.1 ≠ (TX2 b).2.1 := by decide +kernel
theorem tyX2_ok : ∀ k, k < 5 → parseFieldDescriptor (TX2 k).2.2.1 = some (tyX2 k) := by decide +kernel
abbrev cX2_init : ByteArray := prog_4_method_1_code
def yX2_init : MethodName := ⟨RX2, "<init>", "()V"⟩
abbrev cX2_writeType : ByteArray := prog_4_method_2_code
def yX2_writeType : MethodName := ⟨RX2, "writeType", "(LBoundTables$Types;LBoundTables$Table;I)I"⟩
abbrev cX2_openType : ByteArray := prog_4_method_3_code
def yX2_openType : MethodName := ⟨RX2, "openType", "(LBoundTables$Types;LBoundTables$Table;I)V"⟩
abbrev cX2_writeHead : ByteArray := prog_4_method_4_code
def yX2_writeHead : MethodName := ⟨RX2, "writeHead", "(LBoundTables$Table;I)V"⟩
abbrev cX2_writeName : ByteArray := prog_4_method_5_code
def yX2_writeName : MethodName := ⟨RX2, "writeName", "(J)V"⟩
abbrev cX2_writeNumber : ByteArray := prog_4_method_6_code
def yX2_writeNumber : MethodName := ⟨RX2, "writeNumber", "(I)V"⟩
abbrev cX2_write : ByteArray := prog_4_method_7_code
def yX2_write : MethodName := ⟨RX2, "write", "(I)V"⟩
def RX3 : String := "BoundTables$Reader"
def TX3 : u_T := fun k => match k with
  | 0 => ("BoundTables$Reader", "tape", "LBoundTables$Tape;", true)
  | 1 => ("BoundTables$Reader", "question", "[I", true)
  | 2 => ("BoundTables$Reader", "table", "LBoundTables$Table;", false)
  | 3 => ("BoundTables$Reader", "told", "[I", false)
  | 4 => ("BoundTables$Reader", "toldLength", "I", false)
  | 5 => ("BoundTables$Reader", "owner", "I", false)
  | 6 => ("BoundTables$Reader", "second", "I", false)
  | 7 => ("BoundTables$Reader", "target", "I", false)
  | 8 => ("BoundTables$Reader", "found", "I", false)
  | 9 => ("BoundTables$Reader", "foundAt", "I", false)
  | _ => ("BoundTables$Reader", "miscounted", "Z", false)
def tyX3 : Nat → FieldType := fun k => match k with
  | 0 => .object "BoundTables$Tape"
  | 1 => .array .int
  | 2 => .object "BoundTables$Table"
  | 3 => .array .int
  | 4 => .int
  | 5 => .int
  | 6 => .int
  | 7 => .int
  | 8 => .int
  | 9 => .int
  | _ => .boolean
abbrev wsX30 : List Cond := u_ws RX3 TX3 11
theorem nmX3 : ∀ a, a < 11 → ∀ b, b < 11 → a ≠ b → (TX3 a).2.1 ≠ (TX3 b).2.1 := by decide +kernel
theorem tyX3_ok : ∀ k, k < 11 → parseFieldDescriptor (TX3 k).2.2.1 = some (tyX3 k) := by decide +kernel
abbrev cX3_init : ByteArray := prog_5_method_1_code
def yX3_init : MethodName := ⟨RX3, "<init>", "(LBoundTables$Tape;LBoundTables$Table;)V"⟩
abbrev cX3_start : ByteArray := prog_5_method_2_code
def yX3_start : MethodName := ⟨RX3, "start", "(LBoundTables$Table;[I)V"⟩
abbrev cX3_readTable : ByteArray := prog_5_method_3_code
def yX3_readTable : MethodName := ⟨RX3, "readTable", "(LBoundTables$Table;)Z"⟩
abbrev cX3_readQuestion : ByteArray := prog_5_method_4_code
def yX3_readQuestion : MethodName := ⟨RX3, "readQuestion", "(LBoundTables$Table;)Z"⟩
abbrev cX3_readPlace : ByteArray := prog_5_method_5_code
def yX3_readPlace : MethodName := ⟨RX3, "readPlace", "(LBoundTables$Table;)Z"⟩
abbrev cX3_opening : ByteArray := prog_5_method_6_code
def yX3_opening : MethodName := ⟨RX3, "opening", "()Z"⟩
abbrev cX3_declaration : ByteArray := prog_5_method_7_code
def yX3_declaration : MethodName := ⟨RX3, "declaration", "()Z"⟩
abbrev cX3_parameterNames : ByteArray := prog_5_method_8_code
def yX3_parameterNames : MethodName := ⟨RX3, "parameterNames", "()Z"⟩
abbrev cX3_bounds : ByteArray := prog_5_method_9_code
def yX3_bounds : MethodName := ⟨RX3, "bounds", "()Z"⟩
abbrev cX3_isBehindBound : ByteArray := prog_5_method_10_code
def yX3_isBehindBound : MethodName := ⟨RX3, "isBehindBound", "(I)Z"⟩
abbrev cX3_boundName : ByteArray := prog_5_method_11_code
def yX3_boundName : MethodName := ⟨RX3, "boundName", "()I"⟩
abbrev cX3_supers : ByteArray := prog_5_method_12_code
def yX3_supers : MethodName := ⟨RX3, "supers", "()Z"⟩
abbrev cX3_type : ByteArray := prog_5_method_13_code
def yX3_type : MethodName := ⟨RX3, "type", "(IIZ)Z"⟩
abbrev cX3_args : ByteArray := prog_5_method_14_code
def yX3_args : MethodName := ⟨RX3, "args", "(IZ)I"⟩
abbrev cX3_wild : ByteArray := prog_5_method_15_code
def yX3_wild : MethodName := ⟨RX3, "wild", "(IZ)Z"⟩
abbrev cX3_behindType : ByteArray := prog_5_method_16_code
def yX3_behindType : MethodName := ⟨RX3, "behindType", "(Z)Z"⟩
abbrev cX3_tell : ByteArray := prog_5_method_17_code
def yX3_tell : MethodName := ⟨RX3, "tell", "(I)V"⟩
abbrev cX3_fail : ByteArray := prog_5_method_18_code
def yX3_fail : MethodName := ⟨RX3, "fail", "(I)Z"⟩
def RX4 : String := "BoundTables$Table"
def TX4 : u_T := fun k => match k with
  | 0 => ("BoundTables$Table", "className", "[J", true)
  | 1 => ("BoundTables$Table", "firstParameter", "[I", true)
  | 2 => ("BoundTables$Table", "parameterCount", "[I", true)
  | 3 => ("BoundTables$Table", "superCount", "[I", true)
  | 4 => ("BoundTables$Table", "superStart", "[I", true)
  | 5 => ("BoundTables$Table", "parameterName", "[J", true)
  | 6 => ("BoundTables$Table", "parameterClass", "[I", true)
  | 7 => ("BoundTables$Table", "boundCount", "[I", true)
  | 8 => ("BoundTables$Table", "boundStart", "[I", true)
  | 9 => ("BoundTables$Table", "boundLength", "[I", true)
  | 10 => ("BoundTables$Table", "code", "[I", true)
  | 11 => ("BoundTables$Table", "overs", "LBoundTables$Overs;", true)
  | 12 => ("BoundTables$Table", "classes", "I", false)
  | 13 => ("BoundTables$Table", "parameters", "I", false)
  | _ => ("BoundTables$Table", "codeLength", "I", false)
def tyX4 : Nat → FieldType := fun k => match k with
  | 0 => .array .long
  | 1 => .array .int
  | 2 => .array .int
  | 3 => .array .int
  | 4 => .array .int
  | 5 => .array .long
  | 6 => .array .int
  | 7 => .array .int
  | 8 => .array .int
  | 9 => .array .int
  | 10 => .array .int
  | 11 => .object "BoundTables$Overs"
  | 12 => .int
  | 13 => .int
  | _ => .int
abbrev wsX40 : List Cond := u_ws RX4 TX4 15
theorem nmX4 : ∀ a, a < 15 → ∀ b, b < 15 → a ≠ b → (TX4 a).2.1 ≠ (TX4 b).2.1 := by decide +kernel
theorem tyX4_ok : ∀ k, k < 15 → parseFieldDescriptor (TX4 k).2.2.1 = some (tyX4 k) := by decide +kernel
abbrev cX4_init : ByteArray := prog_6_method_1_code
def yX4_init : MethodName := ⟨RX4, "<init>", "()V"⟩
abbrev cX4_startOver : ByteArray := prog_6_method_2_code
def yX4_startOver : MethodName := ⟨RX4, "startOver", "()V"⟩
abbrev cX4_addClass : ByteArray := prog_6_method_3_code
def yX4_addClass : MethodName := ⟨RX4, "addClass", "(J)I"⟩
abbrev cX4_addParameter : ByteArray := prog_6_method_4_code
def yX4_addParameter : MethodName := ⟨RX4, "addParameter", "(IJ)V"⟩
abbrev cX4_addBound : ByteArray := prog_6_method_5_code
def yX4_addBound : MethodName := ⟨RX4, "addBound", "(III)V"⟩
abbrev cX4_addSuper : ByteArray := prog_6_method_6_code
def yX4_addSuper : MethodName := ⟨RX4, "addSuper", "(II)V"⟩
abbrev cX4_findClass : ByteArray := prog_6_method_7_code
def yX4_findClass : MethodName := ⟨RX4, "findClass", "(J)I"⟩
abbrev cX4_findParameter : ByteArray := prog_6_method_8_code
def yX4_findParameter : MethodName := ⟨RX4, "findParameter", "(IJ)I"⟩
abbrev cX4_headOf : ByteArray := prog_6_method_9_code
def yX4_headOf : MethodName := ⟨RX4, "headOf", "(IJ)I"⟩
abbrev cX4_arity : ByteArray := prog_6_method_10_code
def yX4_arity : MethodName := ⟨RX4, "arity", "(I)I"⟩
abbrev cX4_endOfPart : ByteArray := prog_6_method_11_code
def yX4_endOfPart : MethodName := ⟨RX4, "endOfPart", "(I)I"⟩
abbrev cX4_overLength : ByteArray := prog_6_method_12_code
def yX4_overLength : MethodName := ⟨RX4, "overLength", "(II)I"⟩
abbrev cX4_overStart : ByteArray := prog_6_method_13_code
def yX4_overStart : MethodName := ⟨RX4, "overStart", "(II)I"⟩
abbrev cX4_countOver : ByteArray := prog_6_method_14_code
def yX4_countOver : MethodName := ⟨RX4, "countOver", "(I)I"⟩
abbrev cX4_closeClass : ByteArray := prog_6_method_15_code
def yX4_closeClass : MethodName := ⟨RX4, "closeClass", "(I)Z"⟩
abbrev cX4_inheritAll : ByteArray := prog_6_method_16_code
def yX4_inheritAll : MethodName := ⟨RX4, "inheritAll", "(II)Z"⟩
def RX5 : String := "BoundTables$Tape"
def TX5 : u_T := fun k => match k with
  | 0 => ("BoundTables$Tape", "bytes", "[I", true)
  | 1 => ("BoundTables$Tape", "kinds", "[I", true)
  | 2 => ("BoundTables$Tape", "places", "[I", true)
  | 3 => ("BoundTables$Tape", "names", "[J", true)
  | 4 => ("BoundTables$Tape", "length", "I", false)
  | 5 => ("BoundTables$Tape", "now", "I", false)
  | 6 => ("BoundTables$Tape", "kind", "I", false)
  | 7 => ("BoundTables$Tape", "place", "I", false)
  | _ => ("BoundTables$Tape", "name", "J", false)
def tyX5 : Nat → FieldType := fun k => match k with
  | 0 => .array .int
  | 1 => .array .int
  | 2 => .array .int
  | 3 => .array .long
  | 4 => .int
  | 5 => .int
  | 6 => .int
  | 7 => .int
  | _ => .long
abbrev wsX50 : List Cond := u_ws RX5 TX5 9
theorem nmX5 : ∀ a, a < 9 → ∀ b, b < 9 → a ≠ b → (TX5 a).2.1 ≠ (TX5 b).2.1 := by decide +kernel
theorem tyX5_ok : ∀ k, k < 9 → parseFieldDescriptor (TX5 k).2.2.1 = some (tyX5 k) := by decide +kernel
abbrev cX5_init : ByteArray := prog_7_method_1_code
def yX5_init : MethodName := ⟨RX5, "<init>", "()V"⟩
abbrev cX5_append : ByteArray := prog_7_method_2_code
def yX5_append : MethodName := ⟨RX5, "append", "(JI)V"⟩
abbrev cX5_cut : ByteArray := prog_7_method_3_code
def yX5_cut : MethodName := ⟨RX5, "cut", "()V"⟩
abbrev cX5_nameSize : ByteArray := prog_7_method_4_code
def yX5_nameSize : MethodName := ⟨RX5, "nameSize", "(I)I"⟩
abbrev cX5_nameOf : ByteArray := prog_7_method_5_code
def yX5_nameOf : MethodName := ⟨RX5, "nameOf", "(II)J"⟩
abbrev cX5_kindOf : ByteArray := prog_7_method_6_code
def yX5_kindOf : MethodName := ⟨RX5, "kindOf", "(IIJ)I"⟩
abbrev cX5_isLetter : ByteArray := prog_7_method_7_code
def yX5_isLetter : MethodName := ⟨RX5, "isLetter", "(I)Z"⟩
abbrev cX5_isNameByte : ByteArray := prog_7_method_8_code
def yX5_isNameByte : MethodName := ⟨RX5, "isNameByte", "(I)Z"⟩
abbrev cX5_opensArgs : ByteArray := prog_7_method_9_code
def yX5_opensArgs : MethodName := ⟨RX5, "opensArgs", "()Z"⟩
abbrev cX5_step : ByteArray := prog_7_method_10_code
def yX5_step : MethodName := ⟨RX5, "step", "()V"⟩
def RX6 : String := "BoundTables$Types"
def TX6 : u_T := fun k => match k with
  | 0 => ("BoundTables$Types", "heads", "[I", true)
  | 1 => ("BoundTables$Types", "firstPart", "[I", true)
  | 2 => ("BoundTables$Types", "nextInChain", "[I", true)
  | 3 => ("BoundTables$Types", "parts", "[I", true)
  | 4 => ("BoundTables$Types", "chains", "[I", true)
  | 5 => ("BoundTables$Types", "stack", "[I", true)
  | 6 => ("BoundTables$Types", "table", "LBoundTables$Table;", false)
  | 7 => ("BoundTables$Types", "count", "I", false)
  | _ => ("BoundTables$Types", "partCount", "I", false)
def tyX6 : Nat → FieldType := fun k => match k with
  | 0 => .array .int
  | 1 => .array .int
  | 2 => .array .int
  | 3 => .array .int
  | 4 => .array .int
  | 5 => .array .int
  | 6 => .object "BoundTables$Table"
  | 7 => .int
  | _ => .int
abbrev wsX60 : List Cond := u_ws RX6 TX6 9
theorem nmX6 : ∀ a, a < 9 → ∀ b, b < 9 → a ≠ b → (TX6 a).2.1 ≠ (TX6 b).2.1 := by decide +kernel
theorem tyX6_ok : ∀ k, k < 9 → parseFieldDescriptor (TX6 k).2.2.1 = some (tyX6 k) := by decide +kernel
abbrev cX6_init : ByteArray := prog_8_method_1_code
def yX6_init : MethodName := ⟨RX6, "<init>", "(LBoundTables$Table;)V"⟩
abbrev cX6_startOver : ByteArray := prog_8_method_2_code
def yX6_startOver : MethodName := ⟨RX6, "startOver", "(LBoundTables$Table;)V"⟩
abbrev cX6_head : ByteArray := prog_8_method_3_code
def yX6_head : MethodName := ⟨RX6, "head", "(I)I"⟩
abbrev cX6_part : ByteArray := prog_8_method_4_code
def yX6_part : MethodName := ⟨RX6, "part", "(II)I"⟩
abbrev cX6_partsOf : ByteArray := prog_8_method_5_code
def yX6_partsOf : MethodName := ⟨RX6, "partsOf", "(I)I"⟩
abbrev cX6_leaf : ByteArray := prog_8_method_6_code
def yX6_leaf : MethodName := ⟨RX6, "leaf", "(I)I"⟩
abbrev cX6_put : ByteArray := prog_8_method_7_code
def yX6_put : MethodName := ⟨RX6, "put", "([III[III)I"⟩
abbrev cX6_make : ByteArray := prog_8_method_8_code
def yX6_make : MethodName := ⟨RX6, "make", "(II)I"⟩
abbrev cX6_hasParts : ByteArray := prog_8_method_9_code
def yX6_hasParts : MethodName := ⟨RX6, "hasParts", "(III)Z"⟩
def RX7 : String := "BoundTables$Ways"
def TX7 : u_T := fun k => match k with
  | 0 => ("BoundTables$Ways", "sort", "[I", true)
  | 1 => ("BoundTables$Ways", "reach", "[I", true)
  | 2 => ("BoundTables$Ways", "onRound", "[I", true)
  | _ => ("BoundTables$Ways", "expansive", "Z", false)
def tyX7 : Nat → FieldType := fun k => match k with
  | 0 => .array .int
  | 1 => .array .int
  | 2 => .array .int
  | _ => .boolean
abbrev wsX70 : List Cond := u_ws RX7 TX7 4
theorem nmX7 : ∀ a, a < 4 → ∀ b, b < 4 → a ≠ b → (TX7 a).2.1 ≠ (TX7 b).2.1 := by decide +kernel
theorem tyX7_ok : ∀ k, k < 4 → parseFieldDescriptor (TX7 k).2.2.1 = some (tyX7 k) := by decide +kernel
abbrev cX7_init : ByteArray := prog_9_method_1_code
def yX7_init : MethodName := ⟨RX7, "<init>", "()V"⟩
abbrev cX7_measure : ByteArray := prog_9_method_2_code
def yX7_measure : MethodName := ⟨RX7, "measure", "(LBoundTables$Table;)V"⟩
abbrev cX7_addWays : ByteArray := prog_9_method_3_code
def yX7_addWays : MethodName := ⟨RX7, "addWays", "([IIII)V"⟩
abbrev cX7_closeReach : ByteArray := prog_9_method_4_code
def yX7_closeReach : MethodName := ⟨RX7, "closeReach", "(I)V"⟩
abbrev cX7_joinReach : ByteArray := prog_9_method_5_code
def yX7_joinReach : MethodName := ⟨RX7, "joinReach", "(III)V"⟩
abbrev cX7_markRounds : ByteArray := prog_9_method_6_code
def yX7_markRounds : MethodName := ⟨RX7, "markRounds", "(I)V"⟩
abbrev cX7_markRound : ByteArray := prog_9_method_7_code
def yX7_markRound : MethodName := ⟨RX7, "markRound", "(II)V"⟩
abbrev cX7_leads : ByteArray := prog_9_method_8_code
def yX7_leads : MethodName := ⟨RX7, "leads", "(II)Z"⟩
def RX8 : String := "BoundTables"
def TX8 : u_T := fun k => match k with
  | 0 => ("BoundTables", "tape", "LBoundTables$Tape;", true)
  | 1 => ("BoundTables", "ways", "LBoundTables$Ways;", true)
  | 2 => ("BoundTables", "page", "LBoundTables$Page;", true)
  | 3 => ("BoundTables", "table", "LBoundTables$Table;", false)
  | 4 => ("BoundTables", "spare", "LBoundTables$Table;", false)
  | 5 => ("BoundTables", "reader", "LBoundTables$Reader;", true)
  | 6 => ("BoundTables", "asker", "LBoundTables$Asker;", true)
  | _ => ("BoundTables", "latestFault", "I", false)
def tyX8 : Nat → FieldType := fun k => match k with
  | 0 => .object "BoundTables$Tape"
  | 1 => .object "BoundTables$Ways"
  | 2 => .object "BoundTables$Page"
  | 3 => .object "BoundTables$Table"
  | 4 => .object "BoundTables$Table"
  | 5 => .object "BoundTables$Reader"
  | 6 => .object "BoundTables$Asker"
  | _ => .int
abbrev wsX80 : List Cond := u_ws RX8 TX8 8
theorem nmX8 : ∀ a, a < 8 → ∀ b, b < 8 → a ≠ b → (TX8 a).2.1 ≠ (TX8 b).2.1 := by decide +kernel
theorem tyX8_ok : ∀ k, k < 8 → parseFieldDescriptor (TX8 k).2.2.1 = some (tyX8 k) := by decide +kernel
abbrev cX8_init : ByteArray := prog_1_method_1_code
def yX8_init : MethodName := ⟨RX8, "<init>", "()V"⟩
abbrev cX8_feed : ByteArray := prog_1_method_2_code
def yX8_feed : MethodName := ⟨RX8, "feed", "(JI)I"⟩
abbrev cX8_read : ByteArray := prog_1_method_3_code
def yX8_read : MethodName := ⟨RX8, "read", "()I"⟩
abbrev cX8_fault : ByteArray := prog_1_method_4_code
def yX8_fault : MethodName := ⟨RX8, "fault", "()I"⟩
abbrev cX8_cls : ByteArray := prog_1_method_5_code
def yX8_cls : MethodName := ⟨RX8, "cls", "(II)J"⟩
abbrev cX8_isAbove : ByteArray := prog_1_method_6_code
def yX8_isAbove : MethodName := ⟨RX8, "isAbove", "(II)I"⟩
abbrev cX8_parameter : ByteArray := prog_1_method_7_code
def yX8_parameter : MethodName := ⟨RX8, "parameter", "(II)J"⟩
abbrev cX8_way : ByteArray := prog_1_method_8_code
def yX8_way : MethodName := ⟨RX8, "way", "(II)I"⟩
abbrev cX8_ask : ByteArray := prog_1_method_9_code
def yX8_ask : MethodName := ⟨RX8, "ask", "(I)I"⟩
abbrev cX8_told : ByteArray := prog_1_method_10_code
def yX8_told : MethodName := ⟨RX8, "told", "(I)I"⟩
abbrev cX8_above : ByteArray := prog_1_method_11_code
def yX8_above : MethodName := ⟨RX8, "above", "()I"⟩
abbrev cX8_variable : ByteArray := prog_1_method_12_code
def yX8_variable : MethodName := ⟨RX8, "variable", "(II)I"⟩
abbrev cX8_written : ByteArray := prog_1_method_13_code
def yX8_written : MethodName := ⟨RX8, "written", "(I)I"⟩
abbrev cX8_clear : ByteArray := prog_1_method_14_code
def yX8_clear : MethodName := ⟨RX8, "clear", "()V"⟩
abbrev cX8_at : ByteArray := prog_1_method_15_code
def yX8_at : MethodName := ⟨RX8, "at", "([II)I"⟩
abbrev cX8_nameAt : ByteArray := prog_1_method_16_code
def yX8_nameAt : MethodName := ⟨RX8, "nameAt", "([JI)J"⟩
abbrev cX8_set : ByteArray := prog_1_method_17_code
def yX8_set : MethodName := ⟨RX8, "set", "([III)V"⟩
abbrev cX8_isClass : ByteArray := prog_1_method_18_code
def yX8_isClass : MethodName := ⟨RX8, "isClass", "(I)Z"⟩
abbrev cX8_isParameter : ByteArray := prog_1_method_19_code
def yX8_isParameter : MethodName := ⟨RX8, "isParameter", "(I)Z"⟩
abbrev cX8_isWild : ByteArray := prog_1_method_20_code
def yX8_isWild : MethodName := ⟨RX8, "isWild", "(I)Z"⟩
def RX9 : String := "BoundTablesModel"
def TX9 : u_T := fun k => match k with
  | 0 => ("BoundTablesModel", "kind", "[I", true)
  | 1 => ("BoundTablesModel", "val", "[I", true)
  | 2 => ("BoundTablesModel", "cnt", "[I", true)
  | 3 => ("BoundTablesModel", "args", "[I", true)
  | 4 => ("BoundTablesModel", "size", "[I", true)
  | 5 => ("BoundTablesModel", "nextLike", "[I", true)
  | 6 => ("BoundTablesModel", "heads", "[I", true)
  | 7 => ("BoundTablesModel", "low", "I", false)
  | 8 => ("BoundTablesModel", "top", "I", false)
  | 9 => ("BoundTablesModel", "part", "[I", true)
  | 10 => ("BoundTablesModel", "clsName", "[J", true)
  | 11 => ("BoundTablesModel", "clsFirst", "[I", true)
  | 12 => ("BoundTablesModel", "clsCount", "[I", true)
  | 13 => ("BoundTablesModel", "supers", "[I", true)
  | 14 => ("BoundTablesModel", "superCount", "[I", true)
  | 15 => ("BoundTablesModel", "aboveAll", "[I", true)
  | 16 => ("BoundTablesModel", "parName", "[J", true)
  | 17 => ("BoundTablesModel", "parCls", "[I", true)
  | 18 => ("BoundTablesModel", "bounds", "[I", true)
  | 19 => ("BoundTablesModel", "boundCount", "[I", true)
  | 20 => ("BoundTablesModel", "classes", "I", false)
  | 21 => ("BoundTablesModel", "params", "I", false)
  | 22 => ("BoundTablesModel", "told", "I", false)
  | 23 => ("BoundTablesModel", "tableTop", "I", false)
  | 24 => ("BoundTablesModel", "cb", "I", false)
  | 25 => ("BoundTablesModel", "pb", "I", false)
  | 26 => ("BoundTablesModel", "nowClasses", "I", false)
  | 27 => ("BoundTablesModel", "nowParams", "I", false)
  | 28 => ("BoundTablesModel", "tape", "[I", true)
  | 29 => ("BoundTablesModel", "tapeSize", "I", false)
  | 30 => ("BoundTablesModel", "end", "I", false)
  | 31 => ("BoundTablesModel", "at", "I", false)
  | 32 => ("BoundTablesModel", "token", "I", false)
  | 33 => ("BoundTablesModel", "tokenAt", "I", false)
  | 34 => ("BoundTablesModel", "tokenSize", "I", false)
  | 35 => ("BoundTablesModel", "fault", "I", false)
  | 36 => ("BoundTablesModel", "faultAt", "I", false)
  | 37 => ("BoundTablesModel", "lastFault", "I", false)
  | 38 => ("BoundTablesModel", "nodes", "I", false)
  | 39 => ("BoundTablesModel", "ways", "[I", true)
  | 40 => ("BoundTablesModel", "reach", "[Z", true)
  | 41 => ("BoundTablesModel", "expansive", "Z", false)
  | 42 => ("BoundTablesModel", "newBounds", "[I", true)
  | 43 => ("BoundTablesModel", "newCount", "[I", true)
  | 44 => ("BoundTablesModel", "newFloor", "[I", true)
  | 45 => ("BoundTablesModel", "fresh", "I", false)
  | 46 => ("BoundTablesModel", "asked", "I", false)
  | 47 => ("BoundTablesModel", "deepest", "I", false)
  | 48 => ("BoundTablesModel", "put", "I", false)
  | 49 => ("BoundTablesModel", "fromType", "[I", true)
  | 50 => ("BoundTablesModel", "toType", "[I", true)
  | 51 => ("BoundTablesModel", "phase", "[I", true)
  | 52 => ("BoundTablesModel", "index", "[I", true)
  | 53 => ("BoundTablesModel", "made", "[I", true)
  | 54 => ("BoundTablesModel", "thrown", "I", false)
  | 55 => ("BoundTablesModel", "out", "[B", true)
  | 56 => ("BoundTablesModel", "outSize", "I", false)
  | 57 => ("BoundTablesModel", "outAll", "I", false)
  | 58 => ("BoundTablesModel", "becomes", "[I", true)
  | 59 => ("BoundTablesModel", "stamp", "[I", true)
  | 60 => ("BoundTablesModel", "stamps", "I", false)
  | 61 => ("BoundTablesModel", "pile", "[I", true)
  | 62 => ("BoundTablesModel", "openParam", "[Z", true)
  | 63 => ("BoundTablesModel", "openVal", "[I", true)
  | 64 => ("BoundTablesModel", "openCount", "[I", true)
  | 65 => ("BoundTablesModel", "openArgs", "[I", true)
  | 66 => ("BoundTablesModel", "wrap", "[I", true)
  | 67 => ("BoundTablesModel", "seen", "[I", true)
  | 68 => ("BoundTablesModel", "sights", "I", false)
  | 69 => ("BoundTablesModel", "heap", "[I", true)
  | 70 => ("BoundTablesModel", "in", "I", false)
  | 71 => ("BoundTablesModel", "left", "I", false)
  | 72 => ("BoundTablesModel", "right", "I", false)
  | 73 => ("BoundTablesModel", "capture", "[I", true)
  | 74 => ("BoundTablesModel", "depth", "I", false)
  | 75 => ("BoundTablesModel", "fuelTold", "I", false)
  | _ => ("BoundTablesModel", "ended", "I", false)
def tyX9 : Nat → FieldType := fun k => match k with
  | 0 => .array .int
  | 1 => .array .int
  | 2 => .array .int
  | 3 => .array .int
  | 4 => .array .int
  | 5 => .array .int
  | 6 => .array .int
  | 7 => .int
  | 8 => .int
  | 9 => .array .int
  | 10 => .array .long
  | 11 => .array .int
  | 12 => .array .int
  | 13 => .array .int
  | 14 => .array .int
  | 15 => .array .int
  | 16 => .array .long
  | 17 => .array .int
  | 18 => .array .int
  | 19 => .array .int
  | 20 => .int
  | 21 => .int
  | 22 => .int
  | 23 => .int
  | 24 => .int
  | 25 => .int
  | 26 => .int
  | 27 => .int
  | 28 => .array .int
  | 29 => .int
  | 30 => .int
  | 31 => .int
  | 32 => .int
  | 33 => .int
  | 34 => .int
  | 35 => .int
  | 36 => .int
  | 37 => .int
  | 38 => .int
  | 39 => .array .int
  | 40 => .array .boolean
  | 41 => .boolean
  | 42 => .array .int
  | 43 => .array .int
  | 44 => .array .int
  | 45 => .int
  | 46 => .int
  | 47 => .int
  | 48 => .int
  | 49 => .array .int
  | 50 => .array .int
  | 51 => .array .int
  | 52 => .array .int
  | 53 => .array .int
  | 54 => .int
  | 55 => .array .byte
  | 56 => .int
  | 57 => .int
  | 58 => .array .int
  | 59 => .array .int
  | 60 => .int
  | 61 => .array .int
  | 62 => .array .boolean
  | 63 => .array .int
  | 64 => .array .int
  | 65 => .array .int
  | 66 => .array .int
  | 67 => .array .int
  | 68 => .int
  | 69 => .array .int
  | 70 => .int
  | 71 => .int
  | 72 => .int
  | 73 => .array .int
  | 74 => .int
  | 75 => .int
  | _ => .int
abbrev wsX90 : List Cond := u_ws RX9 TX9 77
theorem nmX9 : ∀ a, a < 77 → ∀ b, b < 77 → a ≠ b → (TX9 a).2.1 ≠ (TX9 b).2.1 := by decide +kernel
theorem tyX9_ok : ∀ k, k < 77 → parseFieldDescriptor (TX9 k).2.2.1 = some (tyX9 k) := by decide +kernel
abbrev cX9_init : ByteArray := prog_11_method_1_code
def yX9_init : MethodName := ⟨RX9, "<init>", "()V"⟩
abbrev cX9_anew : ByteArray := prog_11_method_2_code
def yX9_anew : MethodName := ⟨RX9, "anew", "()V"⟩
abbrev cX9_forgetAsked : ByteArray := prog_11_method_3_code
def yX9_forgetAsked : MethodName := ⟨RX9, "forgetAsked", "()V"⟩
abbrev cX9_clearHeads : ByteArray := prog_11_method_4_code
def yX9_clearHeads : MethodName := ⟨RX9, "clearHeads", "()V"⟩
abbrev cX9_slotOf : ByteArray := prog_11_method_5_code
def yX9_slotOf : MethodName := ⟨RX9, "slotOf", "(III)I"⟩
abbrev cX9_isLike : ByteArray := prog_11_method_6_code
def yX9_isLike : MethodName := ⟨RX9, "isLike", "(IIII)Z"⟩
abbrev cX9_make : ByteArray := prog_11_method_7_code
def yX9_make : MethodName := ⟨RX9, "make", "(III)I"⟩
abbrev cX9_chainAgain : ByteArray := prog_11_method_8_code
def yX9_chainAgain : MethodName := ⟨RX9, "chainAgain", "(II)V"⟩
abbrev cX9_substitute : ByteArray := prog_11_method_9_code
def yX9_substitute : MethodName := ⟨RX9, "substitute", "(IIII)I"⟩
abbrev cX9_substituted : ByteArray := prog_11_method_10_code
def yX9_substituted : MethodName := ⟨RX9, "substituted", "(IIII)I"⟩
abbrev cX9_isLetter : ByteArray := prog_11_method_11_code
def yX9_isLetter : MethodName := ⟨RX9, "isLetter", "(I)Z"⟩
abbrev cX9_isPart : ByteArray := prog_11_method_12_code
def yX9_isPart : MethodName := ⟨RX9, "isPart", "(I)Z"⟩
abbrev cX9_isSign : ByteArray := prog_11_method_13_code
def yX9_isSign : MethodName := ⟨RX9, "isSign", "(I)Z"⟩
abbrev cX9_nameAt : ByteArray := prog_11_method_14_code
def yX9_nameAt : MethodName := ⟨RX9, "nameAt", "(II)J"⟩
abbrev cX9_pass : ByteArray := prog_11_method_15_code
def yX9_pass : MethodName := ⟨RX9, "pass", "()V"⟩
abbrev cX9_isBefore : ByteArray := prog_11_method_16_code
def yX9_isBefore : MethodName := ⟨RX9, "isBefore", "(I)Z"⟩
abbrev cX9_fail : ByteArray := prog_11_method_17_code
def yX9_fail : MethodName := ⟨RX9, "fail", "(I)Z"⟩
abbrev cX9_want : ByteArray := prog_11_method_18_code
def yX9_want : MethodName := ⟨RX9, "want", "(I)Z"⟩
abbrev cX9_name : ByteArray := prog_11_method_19_code
def yX9_name : MethodName := ⟨RX9, "name", "()J"⟩
abbrev cX9_findClass : ByteArray := prog_11_method_20_code
def yX9_findClass : MethodName := ⟨RX9, "findClass", "(J)I"⟩
abbrev cX9_findParam : ByteArray := prog_11_method_21_code
def yX9_findParam : MethodName := ⟨RX9, "findParam", "(IJ)I"⟩
abbrev cX9_mayStandBehind : ByteArray := prog_11_method_22_code
def yX9_mayStandBehind : MethodName := ⟨RX9, "mayStandBehind", "(II)Z"⟩
abbrev cX9_openType : ByteArray := prog_11_method_23_code
def yX9_openType : MethodName := ⟨RX9, "openType", "(IIIZ)Z"⟩
abbrev cX9_addArg : ByteArray := prog_11_method_24_code
def yX9_addArg : MethodName := ⟨RX9, "addArg", "(II)V"⟩
abbrev cX9_closed : ByteArray := prog_11_method_25_code
def yX9_closed : MethodName := ⟨RX9, "closed", "(I)I"⟩
abbrev cX9_readType : ByteArray := prog_11_method_26_code
def yX9_readType : MethodName := ⟨RX9, "readType", "(IIZ)I"⟩
abbrev cX9_readHead : ByteArray := prog_11_method_27_code
def yX9_readHead : MethodName := ⟨RX9, "readHead", "(I)Z"⟩
abbrev cX9_readBounds : ByteArray := prog_11_method_28_code
def yX9_readBounds : MethodName := ⟨RX9, "readBounds", "(I)Z"⟩
abbrev cX9_readSupers : ByteArray := prog_11_method_29_code
def yX9_readSupers : MethodName := ⟨RX9, "readSupers", "(I)Z"⟩
abbrev cX9_findAbove : ByteArray := prog_11_method_30_code
def yX9_findAbove : MethodName := ⟨RX9, "findAbove", "(I)Z"⟩
abbrev cX9_readDecl : ByteArray := prog_11_method_31_code
def yX9_readDecl : MethodName := ⟨RX9, "readDecl", "()Z"⟩
abbrev cX9_begin : ByteArray := prog_11_method_32_code
def yX9_begin : MethodName := ⟨RX9, "begin", "()V"⟩
abbrev cX9_read : ByteArray := prog_11_method_33_code
def yX9_read : MethodName := ⟨RX9, "read", "()I"⟩
abbrev cX9_down : ByteArray := prog_11_method_34_code
def yX9_down : MethodName := ⟨RX9, "down", "(II)I"⟩
abbrev cX9_commit : ByteArray := prog_11_method_35_code
def yX9_commit : MethodName := ⟨RX9, "commit", "(I)V"⟩
abbrev cX9_addWays : ByteArray := prog_11_method_36_code
def yX9_addWays : MethodName := ⟨RX9, "addWays", "(II)V"⟩
abbrev cX9_waysOf : ByteArray := prog_11_method_37_code
def yX9_waysOf : MethodName := ⟨RX9, "waysOf", "(I)V"⟩
abbrev cX9_findWays : ByteArray := prog_11_method_38_code
def yX9_findWays : MethodName := ⟨RX9, "findWays", "()V"⟩
abbrev cX9_isOnGrowing : ByteArray := prog_11_method_39_code
def yX9_isOnGrowing : MethodName := ⟨RX9, "isOnGrowing", "(I)Z"⟩
abbrev cX9_readIn : ByteArray := prog_11_method_40_code
def yX9_readIn : MethodName := ⟨RX9, "readIn", "()Z"⟩
abbrev cX9_readQuestion : ByteArray := prog_11_method_41_code
def yX9_readQuestion : MethodName := ⟨RX9, "readQuestion", "()Z"⟩
abbrev cX9_readPlace : ByteArray := prog_11_method_42_code
def yX9_readPlace : MethodName := ⟨RX9, "readPlace", "()Z"⟩
abbrev cX9_readTwice : ByteArray := prog_11_method_43_code
def yX9_readTwice : MethodName := ⟨RX9, "readTwice", "(Z)Z"⟩
abbrev cX9_isVariable : ByteArray := prog_11_method_44_code
def yX9_isVariable : MethodName := ⟨RX9, "isVariable", "(I)Z"⟩
abbrev cX9_boundsOf : ByteArray := prog_11_method_45_code
def yX9_boundsOf : MethodName := ⟨RX9, "boundsOf", "(I)I"⟩
abbrev cX9_boundOf : ByteArray := prog_11_method_46_code
def yX9_boundOf : MethodName := ⟨RX9, "boundOf", "(II)I"⟩
abbrev cX9_captured : ByteArray := prog_11_method_47_code
def yX9_captured : MethodName := ⟨RX9, "captured", "(I)I"⟩
abbrev cX9_bind : ByteArray := prog_11_method_48_code
def yX9_bind : MethodName := ⟨RX9, "bind", "(IIIII)Z"⟩
abbrev cX9_aboveOf : ByteArray := prog_11_method_49_code
def yX9_aboveOf : MethodName := ⟨RX9, "aboveOf", "(II)I"⟩
abbrev cX9_ask2 : ByteArray := prog_11_method_50_code
def yX9_ask2 : MethodName := ⟨RX9, "ask2", "(II)Z"⟩
abbrev cX9_pairs : ByteArray := prog_11_method_51_code
def yX9_pairs : MethodName := ⟨RX9, "pairs", "(I)I"⟩
abbrev cX9_opened : ByteArray := prog_11_method_52_code
def yX9_opened : MethodName := ⟨RX9, "opened", "(I)I"⟩
abbrev cX9_behindFloor : ByteArray := prog_11_method_53_code
def yX9_behindFloor : MethodName := ⟨RX9, "behindFloor", "(I)I"⟩
abbrev cX9_resumed : ByteArray := prog_11_method_54_code
def yX9_resumed : MethodName := ⟨RX9, "resumed", "(II)I"⟩
abbrev cX9_questions : ByteArray := prog_11_method_55_code
def yX9_questions : MethodName := ⟨RX9, "questions", "(III)I"⟩
abbrev cX9_ask : ByteArray := prog_11_method_56_code
def yX9_ask : MethodName := ⟨RX9, "ask", "(I)I"⟩
abbrev cX9_above : ByteArray := prog_11_method_57_code
def yX9_above : MethodName := ⟨RX9, "above", "()I"⟩
abbrev cX9_sign : ByteArray := prog_11_method_58_code
def yX9_sign : MethodName := ⟨RX9, "sign", "(I)V"⟩
abbrev cX9_signs : ByteArray := prog_11_method_59_code
def yX9_signs : MethodName := ⟨RX9, "signs", "(J)V"⟩
abbrev cX9_head : ByteArray := prog_11_method_60_code
def yX9_head : MethodName := ⟨RX9, "head", "(I)V"⟩
abbrev cX9_write : ByteArray := prog_11_method_61_code
def yX9_write : MethodName := ⟨RX9, "write", "(I)V"⟩
abbrev cX9_variable : ByteArray := prog_11_method_62_code
def yX9_variable : MethodName := ⟨RX9, "variable", "(II)I"⟩
abbrev cX9_written : ByteArray := prog_11_method_63_code
def yX9_written : MethodName := ⟨RX9, "written", "(I)I"⟩
abbrev cX9_feed : ByteArray := prog_11_method_64_code
def yX9_feed : MethodName := ⟨RX9, "feed", "(JI)I"⟩
abbrev cX9_fault : ByteArray := prog_11_method_65_code
def yX9_fault : MethodName := ⟨RX9, "fault", "()I"⟩
abbrev cX9_isClass : ByteArray := prog_11_method_66_code
def yX9_isClass : MethodName := ⟨RX9, "isClass", "(I)Z"⟩
abbrev cX9_cls : ByteArray := prog_11_method_67_code
def yX9_cls : MethodName := ⟨RX9, "cls", "(II)J"⟩
abbrev cX9_isOver : ByteArray := prog_11_method_68_code
def yX9_isOver : MethodName := ⟨RX9, "isOver", "(II)Z"⟩
abbrev cX9_isAbove : ByteArray := prog_11_method_69_code
def yX9_isAbove : MethodName := ⟨RX9, "isAbove", "(II)I"⟩
abbrev cX9_isParam : ByteArray := prog_11_method_70_code
def yX9_isParam : MethodName := ⟨RX9, "isParam", "(I)Z"⟩
abbrev cX9_parameter : ByteArray := prog_11_method_71_code
def yX9_parameter : MethodName := ⟨RX9, "parameter", "(II)J"⟩
abbrev cX9_way : ByteArray := prog_11_method_72_code
def yX9_way : MethodName := ⟨RX9, "way", "(II)I"⟩
abbrev cX9_told : ByteArray := prog_11_method_73_code
def yX9_told : MethodName := ⟨RX9, "told", "(I)I"⟩
abbrev cX9_clear : ByteArray := prog_11_method_74_code
def yX9_clear : MethodName := ⟨RX9, "clear", "()V"⟩
abbrev cX9_thrown : ByteArray := prog_11_method_75_code
def yX9_thrown : MethodName := ⟨RX9, "thrown", "()I"⟩
def RJ11 : String := "java/lang/Character"
def TJ11 : u_T := fun k => match k with
  | _ => ("", "", "", false)
def tyJ11 : Nat → FieldType := fun k => match k with
  | _ => .int
abbrev wsJ110 : List Cond := u_ws RJ11 TJ11 0
theorem nmJ11 : ∀ a, a < 0 → ∀ b, b < 0 → a ≠ b → (TJ11 a).2.1 ≠ (TJ11 b).2.1 := by decide +kernel
theorem tyJ11_ok : ∀ k, k < 0 → parseFieldDescriptor (TJ11 k).2.2.1 = some (tyJ11 k) := by decide +kernel
abbrev cJ11_isValidCodePoint_9a6ad : ByteArray := prog_12_method_11_code
def yJ11_isValidCodePoint_9a6ad : MethodName := ⟨RJ11, "isValidCodePoint", "(I)Z"⟩
abbrev cJ11_highSurrogate_5068e : ByteArray := prog_12_method_28_code
def yJ11_highSurrogate_5068e : MethodName := ⟨RJ11, "highSurrogate", "(I)C"⟩
abbrev cJ11_lowSurrogate_5068e : ByteArray := prog_12_method_29_code
def yJ11_lowSurrogate_5068e : MethodName := ⟨RJ11, "lowSurrogate", "(I)C"⟩
def RJx8e188 : String := "java/lang/Cloneable"
def TJx8e188 : u_T := fun k => match k with
  | _ => ("", "", "", false)
def tyJx8e188 : Nat → FieldType := fun k => match k with
  | _ => .int
abbrev wsJx8e1880 : List Cond := u_ws RJx8e188 TJx8e188 0
theorem nmJx8e188 : ∀ a, a < 0 → ∀ b, b < 0 → a ≠ b → (TJx8e188 a).2.1 ≠ (TJx8e188 b).2.1 := by decide +kernel
theorem tyJx8e188_ok : ∀ k, k < 0 → parseFieldDescriptor (TJx8e188 k).2.2.1 = some (tyJx8e188 k) := by decide +kernel
def RJ9 : String := "java/lang/Math"
def TJ9 : u_T := fun k => match k with
  | _ => ("", "", "", false)
def tyJ9 : Nat → FieldType := fun k => match k with
  | _ => .int
abbrev wsJ90 : List Cond := u_ws RJ9 TJ9 0
theorem nmJ9 : ∀ a, a < 0 → ∀ b, b < 0 → a ≠ b → (TJ9 a).2.1 ≠ (TJ9 b).2.1 := by decide +kernel
theorem tyJ9_ok : ∀ k, k < 0 → parseFieldDescriptor (TJ9 k).2.2.1 = some (tyJ9 k) := by decide +kernel
abbrev cJ9_max_7cf53 : ByteArray := prog_17_method_65_code
def yJ9_max_7cf53 : MethodName := ⟨RJ9, "max", "(II)I"⟩
abbrev cJ9_min_7cf53 : ByteArray := prog_17_method_69_code
def yJ9_min_7cf53 : MethodName := ⟨RJ9, "min", "(II)I"⟩
def RJ0 : String := "java/lang/String"
def TJ0 : u_T := fun k => match k with
  | _ => ("", "", "", false)
def tyJ0 : Nat → FieldType := fun k => match k with
  | _ => .int
abbrev wsJ00 : List Cond := u_ws RJ0 TJ0 0
theorem nmJ0 : ∀ a, a < 0 → ∀ b, b < 0 → a ≠ b → (TJ0 a).2.1 ≠ (TJ0 b).2.1 := by decide +kernel
theorem tyJ0_ok : ∀ k, k < 0 → parseFieldDescriptor (TJ0 k).2.2.1 = some (tyJ0 k) := by decide +kernel
abbrev cJ0_length_8abf5 : ByteArray := prog_19_method_54_code
def yJ0_length_8abf5 : MethodName := ⟨RJ0, "length", "()I"⟩
abbrev cJ0_indexOf_0f7a4 : ByteArray := prog_19_method_79_code
def yJ0_indexOf_0f7a4 : MethodName := ⟨RJ0, "indexOf", "(I)I"⟩
abbrev cJ0_indexOf_7cf53 : ByteArray := prog_19_method_80_code
def yJ0_indexOf_7cf53 : MethodName := ⟨RJ0, "indexOf", "(II)I"⟩
abbrev cJ0_coder_7d493 : ByteArray := prog_19_method_152_code
def yJ0_coder_7d493 : MethodName := ⟨RJ0, "coder", "()B"⟩
abbrev cJ0_isLatin1_aae02 : ByteArray := prog_19_method_154_code
def yJ0_isLatin1_aae02 : MethodName := ⟨RJ0, "isLatin1", "()Z"⟩
abbrev cJ0_checkBoundsBeginEnd_23922 : ByteArray := prog_19_method_158_code
def yJ0_checkBoundsBeginEnd_23922 : MethodName := ⟨RJ0, "checkBoundsBeginEnd", "(III)V"⟩
def RJ1 : String := "java/lang/StringLatin1"
def TJ1 : u_T := fun k => match k with
  | _ => ("", "", "", false)
def tyJ1 : Nat → FieldType := fun k => match k with
  | _ => .int
abbrev wsJ10 : List Cond := u_ws RJ1 TJ1 0
theorem nmJ1 : ∀ a, a < 0 → ∀ b, b < 0 → a ≠ b → (TJ1 a).2.1 ≠ (TJ1 b).2.1 := by decide +kernel
theorem tyJ1_ok : ∀ k, k < 0 → parseFieldDescriptor (TJ1 k).2.2.1 = some (tyJ1 k) := by decide +kernel
abbrev cJ1_canEncode_9a6ad : ByteArray := prog_20_method_4_code
def yJ1_canEncode_9a6ad : MethodName := ⟨RJ1, "canEncode", "(I)Z"⟩
abbrev cJ1_indexOf_4cfef : ByteArray := prog_20_method_22_code
def yJ1_indexOf_4cfef : MethodName := ⟨RJ1, "indexOf", "([BIII)I"⟩
abbrev cJ1_indexOfChar_4cfef : ByteArray := prog_20_method_23_code
def yJ1_indexOfChar_4cfef : MethodName := ⟨RJ1, "indexOfChar", "([BIII)I"⟩
def RJ2 : String := "java/lang/StringUTF16"
def TJ2 : u_T := fun k => match k with
  | _ => ("", "", "", false)
def tyJ2 : Nat → FieldType := fun k => match k with
  | _ => .int
abbrev wsJ20 : List Cond := u_ws RJ2 TJ2 0
theorem nmJ2 : ∀ a, a < 0 → ∀ b, b < 0 → a ≠ b → (TJ2 a).2.1 ≠ (TJ2 b).2.1 := by decide +kernel
theorem tyJ2_ok : ∀ k, k < 0 → parseFieldDescriptor (TJ2 k).2.2.1 = some (tyJ2 k) := by decide +kernel
abbrev cJ2_getChar_3b067 : ByteArray := prog_21_method_5_code
def yJ2_getChar_3b067 : MethodName := ⟨RJ2, "getChar", "([BI)C"⟩
abbrev cJ2_length_9d52b : ByteArray := prog_21_method_6_code
def yJ2_length_9d52b : MethodName := ⟨RJ2, "length", "([B)I"⟩
abbrev cJ2_indexOf_4cfef : ByteArray := prog_21_method_40_code
def yJ2_indexOf_4cfef : MethodName := ⟨RJ2, "indexOf", "([BIII)I"⟩
abbrev cJ2_indexOfChar_4cfef : ByteArray := prog_21_method_47_code
def yJ2_indexOfChar_4cfef : MethodName := ⟨RJ2, "indexOfChar", "([BIII)I"⟩
abbrev cJ2_indexOfCharUnsafe_4cfef : ByteArray := prog_21_method_48_code
def yJ2_indexOfCharUnsafe_4cfef : MethodName := ⟨RJ2, "indexOfCharUnsafe", "([BIII)I"⟩
abbrev cJ2_indexOfSupplementary_4cfef : ByteArray := prog_21_method_49_code
def yJ2_indexOfSupplementary_4cfef : MethodName := ⟨RJ2, "indexOfSupplementary", "([BIII)I"⟩
abbrev cJ2_checkBoundsBeginEnd_d044e : ByteArray := prog_21_method_93_code
def yJ2_checkBoundsBeginEnd_d044e : MethodName := ⟨RJ2, "checkBoundsBeginEnd", "(II[B)V"⟩
def RJ10 : String := "java/lang/System"
def TJ10 : u_T := fun k => match k with
  | _ => ("", "", "", false)
def tyJ10 : Nat → FieldType := fun k => match k with
  | _ => .int
abbrev wsJ100 : List Cond := u_ws RJ10 TJ10 0
theorem nmJ10 : ∀ a, a < 0 → ∀ b, b < 0 → a ≠ b → (TJ10 a).2.1 ≠ (TJ10 b).2.1 := by decide +kernel
theorem tyJ10_ok : ∀ k, k < 0 → parseFieldDescriptor (TJ10 k).2.2.1 = some (tyJ10 k) := by decide +kernel
def RJ7 : String := "java/util/Arrays"
def TJ7 : u_T := fun k => match k with
  | _ => ("", "", "", false)
def tyJ7 : Nat → FieldType := fun k => match k with
  | _ => .int
abbrev wsJ70 : List Cond := u_ws RJ7 TJ7 0
theorem nmJ7 : ∀ a, a < 0 → ∀ b, b < 0 → a ≠ b → (TJ7 a).2.1 ≠ (TJ7 b).2.1 := by decide +kernel
theorem tyJ7_ok : ∀ k, k < 0 → parseFieldDescriptor (TJ7 k).2.2.1 = some (tyJ7 k) := by decide +kernel
abbrev cJ7_fill_53178 : ByteArray := prog_25_method_103_code
def yJ7_fill_53178 : MethodName := ⟨RJ7, "fill", "([II)V"⟩
abbrev cJ7_copyOf_59c91 : ByteArray := prog_25_method_123_code
def yJ7_copyOf_59c91 : MethodName := ⟨RJ7, "copyOf", "([II)[I"⟩
def RJ3 : String := "jdk/internal/util/Preconditions"
def TJ3 : u_T := fun k => match k with
  | _ => ("", "", "", false)
def tyJ3 : Nat → FieldType := fun k => match k with
  | _ => .int
abbrev wsJ30 : List Cond := u_ws RJ3 TJ3 0
theorem nmJ3 : ∀ a, a < 0 → ∀ b, b < 0 → a ≠ b → (TJ3 a).2.1 ≠ (TJ3 b).2.1 := by decide +kernel
theorem tyJ3_ok : ∀ k, k < 0 → parseFieldDescriptor (TJ3 k).2.2.1 = some (tyJ3 k) := by decide +kernel
abbrev cJ3_checkFromToIndex_8c36e : ByteArray := prog_26_method_12_code
def yJ3_checkFromToIndex_8c36e : MethodName := ⟨RJ3, "checkFromToIndex", "(IIILjava/util/function/BiFunction;)I"⟩
def RL : String := "BoundTablesLaw"
abbrev cL_feed : ByteArray := method_3_code
def yL_feed : MethodName := ⟨RL, "feed", "(LBoundTables;JI[J)I"⟩
abbrev cL_cls : ByteArray := method_4_code
def yL_cls : MethodName := ⟨RL, "cls", "(LBoundTables;II[J)I"⟩
abbrev cL_isAbove : ByteArray := method_5_code
def yL_isAbove : MethodName := ⟨RL, "isAbove", "(LBoundTables;II[J)I"⟩
abbrev cL_parameter : ByteArray := method_6_code
def yL_parameter : MethodName := ⟨RL, "parameter", "(LBoundTables;II[J)I"⟩
abbrev cL_way : ByteArray := method_7_code
def yL_way : MethodName := ⟨RL, "way", "(LBoundTables;II[J)I"⟩
abbrev cL_ask : ByteArray := method_8_code
def yL_ask : MethodName := ⟨RL, "ask", "(LBoundTables;I[J)I"⟩
abbrev cL_told : ByteArray := method_9_code
def yL_told : MethodName := ⟨RL, "told", "(LBoundTables;I[J)I"⟩
abbrev cL_variable : ByteArray := method_10_code
def yL_variable : MethodName := ⟨RL, "variable", "(LBoundTables;II[J)I"⟩
abbrev cL_written : ByteArray := method_11_code
def yL_written : MethodName := ⟨RL, "written", "(LBoundTables;I[J)I"⟩
abbrev cL_law : ByteArray := code
def yL_law : MethodName := ⟨RL, "law", "([I)Z"⟩
end
section
/-! ===== a small machine over closed data: a step of it is a step of the machine; references are counted from the law's entry on ===== -/
abbrev mI : Type := Int32 × List (Nat × Int32)
abbrev mJ : Type := Int64 × List (Nat × Int64)
/-- a cell: an object (the number of its kind, its fields), or a row ((its kind, its length), what is in it) -/
abbrev mE : Type := (Nat × List Value) ⊕ ((Nat × Nat) × (mI ⊕ mJ))
/-- cells, and how many fields and elements they have in all -/
abbrev mW : Type := List mE × Nat
/-- place, locals, stack, cells -/
abbrev mS : Type := Nat × List (Nat × Value) × List Value × mW
abbrev mL : Type := Nat × Nat × Nat × Int
def mx_g {α : Type} (a : α × List (Nat × α)) (i : Nat) : α := (a.2.lookup i).getD a.1
def mx_s {α : Type} (a : α × List (Nat × α)) (i : Nat) (x : α) : α × List (Nat × α) := (a.1, (i, x) :: a.2)
def mx_E : Nat := 1048576
/-- the number whose value says whether the cells' count is known: 0 if it is -/
def mx_F : Nat := 2097152
abbrev mK : Type := List ((ClassFile.Cond × Value × Value) × Bool)
def mx_v (r : Nat → Value) (v : Value) : Value := match v with
  | .ref j => r j
  | v => v
def mx_c (cy : Nat → ClassId) (r : Nat → Value) (c : mE) : va_E := match c with
  | .inl (ci, fs) => .inr (ci, fs.map (mx_v r))
  | .inr ((k, n), .inl a) => .inl (cy k, n, .inl (mx_g a))
  | .inr ((k, n), .inr a) => .inl (cy k, n, .inr (.inl (mx_g a)))
def mx_abs (cy : Nat → ClassId) (r : Nat → Value) (B : Nat) (w : List mE) : va_W := w.mapIdx (fun j c => (B + j, mx_c cy r c))
def mx_cl : List vw_C := [(RX0, TX0, 15), (RX1, TX1, 7), (RX2, TX2, 5), (RX3, TX3, 11), (RX4, TX4, 15), (RX5, TX5, 9), (RX6, TX6, 9), (RX7, TX7, 4), (RX8, TX8, 8), (RX9, TX9, 77)]
def mx_ty (ci : Nat) : Nat → FieldType := match ci with
  | 0 => tyX0 | 1 => tyX1 | 2 => tyX2 | 3 => tyX3 | 4 => tyX4 | 5 => tyX5 | 6 => tyX6 | 7 => tyX7 | 8 => tyX8 | _ => tyX9
def mx_tys (cy : Nat → ClassId) : List (ClassId × FieldType) := [(cy 0, .int), (cy 1, .long), (cy 2, .boolean), (cy 3, .byte)]
def mx_R (D : va_G) (cy : Nat → ClassId) (r : Nat → Value) (B : Nat) (w : mW) (H : Heap) : Prop := (r mx_F = .int 0 → H.size = B + w.1.length) ∧ w.1.length ≤ mx_E ∧ va_P D mx_cl (mx_abs cy r B w.1) H
def mx_r (r : Nat → Value) (B : Nat) : Prop := (∀ j, j < mx_E → r j = .ref (B + j)) ∧ (∃ b, r mx_E = .ref b) ∧ ∀ j, mx_E < j → ∃ x : Int32, r j = .int x
def mx_ok (w : Cond) : Bool := match w with
  | .arrayClass _ => true
  | w => w.onTables && w.keepsH
def mx_Env (U : State) : Prop := ∀ w ∈ lw_tbl, mx_ok w = true → ∀ a, w.before a U = true
def mx_at (q : Nat) (w : Cond) : Bool := decide (lw_tbl[q]? = some w) && mx_ok w
theorem mx_at_use {q : Nat} {w : Cond} {U : State} {a : Array Value} (h : mx_at q w = true) (hE : mx_Env U) : w.before a U = true := by
  simp only [mx_at, Bool.and_eq_true, decide_eq_true_eq] at h
  exact hE w (List.mem_of_getElem? h.1) h.2 a
theorem mx_ok_warm {s U : State} {w : Cond} {a a' : Array Value} (hW : s.WarmedH U.vm) (hk : mx_ok w = true) (h : w.before a s = true) : w.before a' U = true := by
  have key : (w.onTables && w.keepsH) = true → w.before a' U = true := by
    intro hk
    simp only [Bool.and_eq_true] at hk
    have h1 := Cond.onTables_warmH (T := U) (args' := a') hW hk.1 hk.2 h
    rwa [State.setVm_self] at h1
  cases w <;> first | exact key hk | exact word_at hW (Or.inr ⟨_, rfl⟩) h
theorem mx_Env.warm {s U : State} (hW : s.WarmedH U.vm) (h : mx_Env s) : mx_Env U := fun w hw hk a => mx_ok_warm hW hk (h w hw hk a)
theorem mx_Env.same {s U : State} (hv : U.vm = s.vm) (h : mx_Env s) : mx_Env U := by
  refine mx_Env.warm ?_ h
  rw [hv]
  exact State.WarmedH.refl s
/-! ### words of the values -/
theorem mx_v_int (r : Nat → Value) (x : Int32) : mx_v r (.int x) = .int x := rfl
theorem mx_v_long (r : Nat → Value) (x : Int64) : mx_v r (.long x) = .long x := rfl
theorem mx_v_null (r : Nat → Value) : mx_v r .null = .null := rfl
theorem mx_v_ref (r : Nat → Value) (j : Nat) : mx_v r (.ref j) = r j := rfl
theorem mx_r.ref {r : Nat → Value} {B : Nat} (h : mx_r r B) {j : Nat} (hj : j ≤ mx_E) : ∃ a, r j = .ref a := by
  rcases Nat.lt_or_eq_of_le hj with h1 | h1
  · exact ⟨_, h.1 j h1⟩
  · rw [h1]; exact h.2.1
theorem mx_r.cat {r : Nat → Value} {B : Nat} (h : mx_r r B) (j : Nat) : (r j).category = 1 := by
  rcases Nat.lt_or_ge mx_E j with h1 | h1
  · obtain ⟨x, hx⟩ := h.2.2 j h1; rw [hx]; rfl
  · obtain ⟨x, hx⟩ := h.ref h1; rw [hx]; rfl
theorem mx_cat {r : Nat → Value} {B : Nat} (h : mx_r r B) (v : Value) : (mx_v r v).category = v.category := by
  cases v <;> first | rfl | exact (h.cat _)
theorem mx_cats {r : Nat → Value} {B : Nat} (h : mx_r r B) (st : List Value) : ((st.map (mx_v r)).map fun v => v.category).sum = (st.map fun v => v.category).sum := by
  rw [List.map_map]
  congr 1
  exact List.map_congr_left (fun v _ => mx_cat h v)
/-! ### words of the cells -/
theorem mx_abs_get {cy : Nat → ClassId} {r : Nat → Value} {B : Nat} {w : List mE} {j : Nat} {c : mE} (h : w[j]? = some c) : (mx_abs cy r B w)[j]? = some (B + j, mx_c cy r c) := by
  simp [mx_abs, List.getElem?_mapIdx, h]
theorem mx_abs_inv {cy : Nat → ClassId} {r : Nat → Value} {B : Nat} {w : List mE} {j : Nat} {q : Nat × va_E} (h : (mx_abs cy r B w)[j]? = some q) : ∃ c, w[j]? = some c ∧ q = (B + j, mx_c cy r c) := by
  simp only [mx_abs, List.getElem?_mapIdx, Option.map_eq_some_iff] at h
  obtain ⟨c, h1, h2⟩ := h
  exact ⟨c, h1, h2.symm⟩
theorem mx_abs_set {cy : Nat → ClassId} {r : Nat → Value} {B : Nat} {w : List mE} {j : Nat} {c c' : mE} (h : w[j]? = some c) : (mx_abs cy r B w).set j (B + j, mx_c cy r c') = mx_abs cy r B (w.set j c') := by
  apply List.ext_getElem?
  intro i
  have hl : j < w.length := (List.getElem?_eq_some_iff.mp h).1
  by_cases hi : i = j
  · subst hi
    simp [mx_abs, List.getElem?_mapIdx, hl]
  · simp [mx_abs, List.getElem?_mapIdx, List.getElem?_set_ne (Ne.symm hi)]
theorem mx_abs_push {cy : Nat → ClassId} {r : Nat → Value} {B : Nat} {w : List mE} {c : mE} : mx_abs cy r B (w ++ [c]) = mx_abs cy r B w ++ [(B + w.length, mx_c cy r c)] := by
  simp [mx_abs, List.mapIdx_append]
theorem mx_D {cy : Nat → ClassId} {r : Nat → Value} {B : Nat} {w : List mE} : va_D (fun q => B ≤ q) (mx_abs cy r B w) := by
  refine ⟨fun i j p q hi hj hpq => ?_, fun k q hk => ?_⟩
  · obtain ⟨_, _, rfl⟩ := mx_abs_inv hi
    obtain ⟨_, _, rfl⟩ := mx_abs_inv hj
    have : B + i = B + j := hpq
    omega
  · obtain ⟨_, _, rfl⟩ := mx_abs_inv hk
    exact Nat.le_add_right B k
theorem mx_g_s {α : Type} (a : α × List (Nat × α)) (i : Nat) (x : α) (j : Nat) : mx_g (mx_s a i x) j = if j = i then x else mx_g a j := by
  unfold mx_g mx_s
  by_cases h : j = i
  · subst h
    simp [List.lookup]
  · have : (j == i) = false := by simpa using h
    simp [List.lookup, this, h]
/-- a cell is written: the picture of the others stays -/
theorem mx_R.set {D : va_G} {cy : Nat → ClassId} {r : Nat → Value} {B : Nat} {w : mW} {H H1 : Heap} {j : Nat} {c c' : mE} (h : mx_R D cy r B w H) (hj : w.1[j]? = some c) (hsz : H1.size = H.size) (ho : ∀ q : Nat, q ≠ B + j → H1[q]? = H[q]?) (hc : va_at D mx_cl (B + j, mx_c cy r c') H1) : mx_R D cy r B (w.1.set j c', w.2) H1 := by
  obtain ⟨h1, h2, h3⟩ := h
  refine ⟨fun q => by simp [hsz, h1 q], by simpa using h2, ?_⟩
  rw [← mx_abs_set hj]
  exact h3.set (A := fun q => B ≤ q) mx_D (mx_abs_get hj) hc ho
/-- a cell is made -/
theorem mx_R.push {D : va_G} {cy : Nat → ClassId} {r : Nat → Value} {B : Nat} {w : mW} {H H1 : Heap} {c : mE} {n : Nat} (h : mx_R D cy r B w H) (hl : w.1.length < mx_E) (hsz : H1.size = H.size + 1) (ho : ∀ q : Nat, q < H.size → H1[q]? = H[q]?) (hc : va_at D mx_cl (B + w.1.length, mx_c cy r c) H1) : mx_R D cy r B (w.1 ++ [c], w.2 + n) H1 := by
  obtain ⟨h1, h2, h3⟩ := h
  refine ⟨fun q => by simp [hsz, h1 q]; omega, by simp; omega, ?_⟩
  show va_P D mx_cl (mx_abs cy r B (w.1 ++ [c])) H1
  rw [mx_abs_push]
  refine (h3.kept fun k q hk => ho q.1 ((h3 k q hk).lt)).app (fun k q hk => ?_)
  have hz : k < 1 := by simpa using (List.getElem?_eq_some_iff.mp hk).1
  have : k = 0 := by omega
  subst this
  cases hk
  exact hc
end
section
/-! ### the steps -/
theorem mx_blt {a b : Nat} (h : Nat.blt a b = true) : a < b := Nat.le_of_ble_eq_true h
def mx_pure (i : Instr) (st : List Value) : Option (List Value) := match i, st with
  | .iconst n, st => some (.int (Int32.ofInt n) :: st)
  | .bipush n, st => some (.int (Int8.ofInt n).toInt32 :: st)
  | .sipush n, st => some (.int (Int16.ofInt n).toInt32 :: st)
  | .lconst n, st => some (.long (Int64.ofNat (n : Nat)) :: st)
  | .iadd, .int y :: .int x :: st => some (.int (x + y) :: st)
  | .isub, .int y :: .int x :: st => some (.int (x - y) :: st)
  | .imul, .int y :: .int x :: st => some (.int (x * y) :: st)
  | .iand, .int y :: .int x :: st => some (.int (x &&& y) :: st)
  | .ior, .int y :: .int x :: st => some (.int (x ||| y) :: st)
  | .ixor, .int y :: .int x :: st => some (.int (x ^^^ y) :: st)
  | .idiv, .int y :: .int x :: st => if y = 0 then none else some (.int (x / y) :: st)
  | .irem, .int y :: .int x :: st => if y = 0 then none else some (.int (x - x / y * y) :: st)
  | .ishl, .int y :: .int x :: st => some (.int (x <<< (y &&& 31)) :: st)
  | .ishr, .int y :: .int x :: st => some (.int (x >>> (y &&& 31)) :: st)
  | .iushr, .int y :: .int x :: st => some (.int (x.toUInt32 >>> (y.toUInt32 &&& Int32.toUInt32 31)).toInt32 :: st)
  | .i2l, .int x :: st => some (.long x.toInt64 :: st)
  | .l2i, .long x :: st => some (.int x.toInt32 :: st)
  | .i2b, .int x :: st => some (.int x.toInt8.toInt32 :: st)
  | .i2c, .int x :: st => some (.int (x.toUInt32 % 65536).toInt32 :: st)
  | .land, .long y :: .long x :: st => some (.long (x &&& y) :: st)
  | .lor, .long y :: .long x :: st => some (.long (x ||| y) :: st)
  | .lshl, .int y :: .long x :: st => some (.long (x <<< (y.toInt64 &&& 63)) :: st)
  | .lshr, .int y :: .long x :: st => some (.long (x >>> (y.toInt64 &&& 63)) :: st)
  | .lushr, .int y :: .long x :: st => some (.long (x.toUInt64 >>> (y.toInt64.toUInt64 &&& Int64.toUInt64 63)).toInt64 :: st)
  | .lcmp, .long y :: .long x :: st => some (.int (lg_cmp x y) :: st)
  | .dup, v :: st => if v.category = 1 then some (v :: v :: st) else none
  | .pop, v :: st => if v.category = 1 then some st else none
  | .dup2, v :: u :: st => if v.category = 1 ∧ u.category = 1 then some (v :: u :: v :: u :: st) else if v.category = 2 then some (v :: v :: u :: st) else none
  | _, _ => none
def mx_len (i : Instr) : Nat := match i with
  | .bipush _ | .iload _ | .lload _ | .aload _ | .istore _ | .lstore _ | .astore _ | .ldc _ | .newarray _ => 2
  | .sipush _ | .iinc _ _ | .ldc2_w _ | .getfield _ | .putfield _ | .invokevirtual _ | .invokestatic _ | .invokespecial _ | .new _ | .goto _ | .ifCond _ _ | .if_icmp _ _ => 3
  | _ => 1
def mx_st1 (lv : List (Nat × Value)) (i : Nat) (v : Value) : List (Nat × Value) := (i, v) :: lv.filter (fun q => !(q.1 == i) && !(q.1 + 1 == i && q.2.category == 2))
def mx_st2 (lv : List (Nat × Value)) (i : Nat) (v : Value) : List (Nat × Value) := (i, v) :: lv.filter (fun q => !(q.1 == i) && (!(q.1 == i + 1) && !(q.1 + 1 == i && q.2.category == 2)))
def mx_isI (v : Value) : Bool := match v with
  | .int _ => true
  | .ref j => Nat.blt mx_E j
  | _ => false
def mx_isL (v : Value) : Bool := match v with
  | .long _ => true
  | _ => false
def mx_isA (v : Value) : Bool := match v with
  | .null => true
  | .ref j => Nat.ble j mx_E
  | _ => false
def mx_loc (nL : Nat) (i : Instr) (lv : List (Nat × Value)) (st : List Value) : Option (List (Nat × Value) × List Value) := match i, st with
  | .iload_n n, st => match lv.lookup (n : Nat) with | some v => if mx_isI v then some (lv, v :: st) else none | none => none
  | .iload n, st => match lv.lookup n with | some v => if mx_isI v then some (lv, v :: st) else none | none => none
  | .lload_n n, st => match lv.lookup (n : Nat) with | some v => if mx_isL v then some (lv, v :: st) else none | none => none
  | .lload n, st => match lv.lookup n with | some v => if mx_isL v then some (lv, v :: st) else none | none => none
  | .aload_n n, st => match lv.lookup (n : Nat) with | some v => if mx_isA v then some (lv, v :: st) else none | none => none
  | .aload n, st => match lv.lookup n with | some v => if mx_isA v then some (lv, v :: st) else none | none => none
  | .istore_n n, v :: st => if mx_isI v && Nat.blt (n : Nat) nL then some (mx_st1 lv n v, st) else none
  | .istore n, v :: st => if mx_isI v && Nat.blt n nL then some (mx_st1 lv n v, st) else none
  | .lstore_n n, v :: st => if mx_isL v && Nat.blt ((n : Nat) + 1) nL then some (mx_st2 lv n v, st) else none
  | .lstore n, v :: st => if mx_isL v && Nat.blt (n + 1) nL then some (mx_st2 lv n v, st) else none
  | .astore_n n, v :: st => if mx_isA v && Nat.blt (n : Nat) nL then some (mx_st1 lv n v, st) else none
  | .astore n, v :: st => if mx_isA v && Nat.blt n nL then some (mx_st1 lv n v, st) else none
  | .iinc n k, st => match lv.lookup n with | some (.int x) => if Nat.blt n nL then some (mx_st1 lv n (.int (x + Int32.ofInt k)), st) else none | _ => none
  | _, _ => none
def mx_cmp (c : ClassFile.Cond) (x y : Int32) : Bool := match c with
  | .eq => decide (x = y) | .ne => decide (¬ x = y) | .lt => decide (x < y) | .ge => decide (y ≤ x) | .gt => decide (y < x) | .le => decide (x ≤ y)
def mx_tg (pc : Nat) (off : Int) : Option Nat := match (pc : Int) + off with
  | .ofNat t => some t
  | _ => none
/-- what is known of numbers that are names -/
def mx_kf (kb : mK) (k : ClassFile.Cond × Value × Value) : Option Bool := match kb.find? (fun e => decide (e.1 = k)) with
  | some e => some e.2
  | none => none
def mx_kb (kb : mK) (r : Nat → Value) : Prop := ∀ e ∈ kb, ∀ x y : Int32, mx_v r e.1.2.1 = .int x → mx_v r e.1.2.2 = .int y → mx_cmp e.1.1 x y = e.2
def mx_dec (kb : mK) (c : ClassFile.Cond) (v u : Value) : Option Bool := match v, u with
  | .int x, .int y => some (mx_cmp c x y)
  | v, u => if mx_isI v && mx_isI u then mx_kf kb (c, v, u) else none
def mx_br (kb : mK) (pc : Nat) (i : Instr) (st : List Value) : Option (Nat × List Value) := match i, st with
  | .goto off, st => match mx_tg pc off with | some t => some (t, st) | none => none
  | .ifCond c off, v :: st => match mx_tg pc off with | some t => (match mx_dec kb c v (.int 0) with | some true => some (t, st) | some false => some (pc + 3, st) | none => none) | none => none
  | .if_icmp c off, u :: v :: st => match mx_tg pc off with | some t => (match mx_dec kb c v u with | some true => some (t, st) | some false => some (pc + 3, st) | none => none) | none => none
  | .tableswitch dflt lo hi offs, .int x :: st => if x.toInt < lo ∨ hi < x.toInt then (match mx_tg pc dflt with | some t => some (t, st) | none => none) else
      match offs[(x.toInt - lo).toNat]? with | some off => (match mx_tg pc off with | some t => some (t, st) | none => none) | none => none
  | .tableswitch dflt lo hi _, v :: st => if mx_isI v && ((decide (mx_kf kb (.lt, v, .int (Int32.ofInt lo)) = some true) && decide ((Int32.ofInt lo).toInt = lo)) || (decide (mx_kf kb (.gt, v, .int (Int32.ofInt hi)) = some true) && decide ((Int32.ofInt hi).toInt = hi))) then (match mx_tg pc dflt with | some t => some (t, st) | none => none) else none
  | _, _ => none
theorem mx_kf_spec {kb : mK} {r : Nat → Value} (hkb : mx_kb kb r) {c : ClassFile.Cond} {v u : Value} {b : Bool} (h : mx_kf kb (c, v, u) = some b) {x y : Int32} (hx : mx_v r v = .int x) (hy : mx_v r u = .int y) : mx_cmp c x y = b := by
  unfold mx_kf at h
  split at h
  · rename_i e he
    have h1 := List.find?_some he
    simp only [decide_eq_true_eq] at h1
    have h2 := hkb e (List.mem_of_find?_eq_some he) x y
    rw [h1] at h2
    cases h
    exact h2 hx hy
  · cases h
theorem mx_tg_spec {pc : Nat} {off : Int} {t : Nat} (h : mx_tg pc off = some t) : (pc : Int) + off = (t : Int) := by
  unfold mx_tg at h
  split at h
  · cases h; assumption
  · cases h
section MX
variable {p : Program} {l : Launch} {e : Env} {R : Room} {s : State} {m : MethodId} {args : Array Value} {below : List Frame} {meth : Method} {c : Code} {H : Heap} {locs : List Loc} {cells slots : Nat} {Q : State → Prop}
variable {cc : ByteArray} {pc nL : Nat} {ls : Array Slot} {r : Nat → Value} {B : Nat}
set_option maxHeartbeats 4000000 in
theorem mx_pure_W (hx : p.tables.exec = Jvm.exec) (hb : c.code = cc) (hr : mx_r r B) {i : Instr} {st st' : List Value} (hd : decode cc pc = .ok (i, mx_len i)) (h : mx_pure i st = some st')
    (k : W p l e R s m args below meth c H locs cells slots Q (F0 m (pc + mx_len i) ls (st'.map (mx_v r)))) : W p l e R s m args below meth c H locs cells slots Q (F0 m pc ls (st.map (mx_v r))) := by
  unfold mx_pure at h
  split at h
  case h_1 => cases h; exact lv_iconst hx hb hd rfl k
  case h_2 => cases h; exact lv_bipush hx hb hd rfl k
  case h_3 => cases h; exact lv_sipush hx hb hd rfl k
  case h_4 => cases h; exact lv_lconst hx hb hd rfl k
  case h_5 => cases h; exact lv_iadd hx hb hd k
  case h_6 => cases h; exact lv_isub hx hb hd k
  case h_7 => cases h; exact lv_imul hx hb hd k
  case h_8 => cases h; exact lv_iand hx hb hd k
  case h_9 => cases h; exact lv_ior hx hb hd k
  case h_10 => cases h; exact lv_ixor hx hb hd k
  case h_11 =>
    split at h
    · cases h
    · cases h; exact lv_idiv hx hb hd (by assumption) k
  case h_12 =>
    split at h
    · cases h
    · cases h; exact lv_irem hx hb hd (by assumption) k
  case h_13 => cases h; exact lv_ishl hx hb hd k
  case h_14 => cases h; exact lv_ishr hx hb hd k
  case h_15 => cases h; exact lv_iushr hx hb hd rfl k
  case h_16 => cases h; exact lv_i2l hx hb hd rfl k
  case h_17 => cases h; exact lv_l2i hx hb hd rfl k
  case h_18 => cases h; exact lv_i2b hx hb hd rfl k
  case h_19 => cases h; exact lv_i2c hx hb hd rfl k
  case h_20 => cases h; exact lv_land hx hb hd k
  case h_21 => cases h; exact lv_lor hx hb hd k
  case h_22 => cases h; exact lv_lshl hx hb hd rfl k
  case h_23 => cases h; exact lv_lshr hx hb hd rfl k
  case h_24 => cases h; exact lv_lushr hx hb hd rfl k
  case h_25 => cases h; exact W.lcmp hx hb hd k
  case h_26 =>
    split at h
    · cases h; exact lv_dup hx hb hd (by rw [mx_cat hr]; assumption) k
    · cases h
  case h_27 =>
    split at h
    · cases h; exact lv_pop hx hb hd (by rw [mx_cat hr]; assumption) k
    · cases h
  case h_28 =>
    split at h
    · rename_i hc
      cases h; exact lv_dup2_11 hx hb hd (by rw [mx_cat hr]; exact hc.1) (by rw [mx_cat hr]; exact hc.2) k
    · split at h
      · cases h; exact lv_dup2_2 hx hb hd (by rw [mx_cat hr]; assumption) k
      · cases h
  case h_29 => cases h
/-- the locals as the machine has them -/
def mx_lv (r : Nat → Value) (lv : List (Nat × Value)) : List (Nat × Value) := lv.map (fun q => (q.1, mx_v r q.2))
theorem mx_lk {lv : List (Nat × Value)} {i : Nat} {v : Value} (h : lv.lookup i = some v) : (i, v) ∈ lv := by
  induction lv with
  | nil => simp at h
  | cons q t ih =>
    obtain ⟨j, u⟩ := q
    by_cases hj : i = j
    · subst hj
      simp [List.lookup] at h
      simp [h]
    · have : (i == j) = false := by simpa using hj
      simp [List.lookup, this] at h
      exact List.mem_cons_of_mem _ (ih h)
theorem mx_lv_at {lv : List (Nat × Value)} {i : Nat} {v : Value} (hl : lv_has ls nL (mx_lv r lv)) (h : lv.lookup i = some v) : ls[i]? = some (.val (mx_v r v)) :=
  hl.2.2 (i, mx_v r v) (List.mem_map.mpr ⟨(i, v), mx_lk h, rfl⟩)
theorem mx_lv_st1 (hr : mx_r r B) (lv : List (Nat × Value)) (i : Nat) (v : Value) : (i, mx_v r v) :: (mx_lv r lv).filter (fun q => !(q.1 == i) && !(q.1 + 1 == i && q.2.category == 2)) = mx_lv r (mx_st1 lv i v) := by
  simp only [mx_lv, mx_st1, List.map_cons, List.filter_map]
  congr 2
  apply List.filter_congr
  intro q _
  simp [Function.comp, mx_cat hr]
theorem mx_lv_st2 (hr : mx_r r B) (lv : List (Nat × Value)) (i : Nat) (v : Value) : (i, mx_v r v) :: (mx_lv r lv).filter (fun q => !(q.1 == i) && (!(q.1 == i + 1) && !(q.1 + 1 == i && q.2.category == 2))) = mx_lv r (mx_st2 lv i v) := by
  simp only [mx_lv, mx_st2, List.map_cons, List.filter_map]
  congr 2
  apply List.filter_congr
  intro q _
  simp [Function.comp, mx_cat hr]
theorem mx_isI_spec (hr : mx_r r B) {v : Value} (h : mx_isI v = true) : ∃ x : Int32, mx_v r v = .int x := by
  unfold mx_isI at h
  split at h
  · exact ⟨_, rfl⟩
  · exact hr.2.2 _ (mx_blt h)
  · cases h
theorem mx_isL_spec {v : Value} (h : mx_isL v = true) : ∃ x : Int64, mx_v r v = .long x := by
  unfold mx_isL at h
  split at h
  · exact ⟨_, rfl⟩
  · cases h
theorem mx_isA_spec (hr : mx_r r B) {v : Value} (h : mx_isA v = true) : mx_v r v = .null ∨ ∃ a, mx_v r v = .ref a := by
  unfold mx_isA at h
  split at h
  · exact Or.inl rfl
  · exact Or.inr (hr.ref (by simpa using h))
  · cases h
set_option maxHeartbeats 4000000 in
theorem mx_loc_W (hx : p.tables.exec = Jvm.exec) (hb : c.code = cc) (hr : mx_r r B) {i : Instr} {lv lv' : List (Nat × Value)} {st st' : List Value} (hl : lv_has ls nL (mx_lv r lv)) (hd : decode cc pc = .ok (i, mx_len i)) (h : mx_loc nL i lv st = some (lv', st'))
    (k : ∀ ls' : Array Slot, lv_has ls' nL (mx_lv r lv') → W p l e R s m args below meth c H locs cells slots Q (F0 m (pc + mx_len i) ls' (st'.map (mx_v r)))) : W p l e R s m args below meth c H locs cells slots Q (F0 m pc ls (st.map (mx_v r))) := by
  unfold mx_loc at h
  split at h
  case h_1 n st =>
    split at h
    · rename_i v hv
      split at h
      · rename_i hi
        cases h
        have k := k ls hl
        obtain ⟨x, hx2⟩ := mx_isI_spec hr hi
        have h2 := mx_lv_at hl hv
        simp only [List.map_cons, hx2] at k h2
        exact lv_iload_n hx hb hd rfl h2 k
      · cases h
    · cases h
  case h_2 n st =>
    split at h
    · rename_i v hv
      split at h
      · rename_i hi
        cases h
        have k := k ls hl
        obtain ⟨x, hx2⟩ := mx_isI_spec hr hi
        have h2 := mx_lv_at hl hv
        simp only [List.map_cons, hx2] at k h2
        exact lv_iload hx hb hd h2 k
      · cases h
    · cases h
  case h_3 n st =>
    split at h
    · rename_i v hv
      split at h
      · rename_i hi
        cases h
        have k := k ls hl
        obtain ⟨x, hx2⟩ := mx_isL_spec (r := r) hi
        have h2 := mx_lv_at hl hv
        simp only [List.map_cons, hx2] at k h2
        exact lv_lload_n hx hb hd rfl h2 k
      · cases h
    · cases h
  case h_4 n st =>
    split at h
    · rename_i v hv
      split at h
      · rename_i hi
        cases h
        have k := k ls hl
        obtain ⟨x, hx2⟩ := mx_isL_spec (r := r) hi
        have h2 := mx_lv_at hl hv
        simp only [List.map_cons, hx2] at k h2
        exact lv_lload hx hb hd h2 k
      · cases h
    · cases h
  case h_5 n st =>
    split at h
    · rename_i v hv
      split at h
      · rename_i hi
        cases h
        have k := k ls hl
        have h2 := mx_lv_at hl hv
        rcases mx_isA_spec hr hi with hx2 | ⟨x, hx2⟩ <;> simp only [List.map_cons, hx2] at k h2
        · exact lv_aload_nN hx hb hd rfl h2 k
        · exact lv_aload_n hx hb hd rfl h2 k
      · cases h
    · cases h
  case h_6 n st =>
    split at h
    · rename_i v hv
      split at h
      · rename_i hi
        cases h
        have k := k ls hl
        have h2 := mx_lv_at hl hv
        rcases mx_isA_spec hr hi with hx2 | ⟨x, hx2⟩ <;> simp only [List.map_cons, hx2] at k h2
        · exact lv_aloadN hx hb hd h2 k
        · exact lv_aload hx hb hd h2 k
      · cases h
    · cases h
  case h_7 n v st =>
    split at h
    · rename_i hi
      simp only [Bool.and_eq_true] at hi
      cases h
      obtain ⟨x, hx2⟩ := mx_isI_spec hr hi.1
      have hn : (n : Nat) < nL := mx_blt hi.2
      have e1 := mx_lv_st1 hr lv (n : Nat) v
      simp only [List.map_cons, hx2] at e1 ⊢
      exact lv_istore_n hx hb hd rfl hl hn e1 k
    · cases h
  case h_8 n v st =>
    split at h
    · rename_i hi
      simp only [Bool.and_eq_true] at hi
      cases h
      obtain ⟨x, hx2⟩ := mx_isI_spec hr hi.1
      have hn : n < nL := mx_blt hi.2
      have e1 := mx_lv_st1 hr lv n v
      simp only [List.map_cons, hx2] at e1 ⊢
      exact lv_istore hx hb hd hl hn e1 k
    · cases h
  case h_9 n v st =>
    split at h
    · rename_i hi
      simp only [Bool.and_eq_true] at hi
      cases h
      obtain ⟨x, hx2⟩ := mx_isL_spec (r := r) hi.1
      have hn : (n : Nat) + 1 < nL := mx_blt hi.2
      have e1 := mx_lv_st2 hr lv (n : Nat) v
      simp only [List.map_cons, hx2] at e1 ⊢
      exact lv_lstore_n hx hb hd rfl hl hn e1 k
    · cases h
  case h_10 n v st =>
    split at h
    · rename_i hi
      simp only [Bool.and_eq_true] at hi
      cases h
      obtain ⟨x, hx2⟩ := mx_isL_spec (r := r) hi.1
      have hn : n + 1 < nL := mx_blt hi.2
      have e1 := mx_lv_st2 hr lv n v
      simp only [List.map_cons, hx2] at e1 ⊢
      exact lv_lstore hx hb hd hl hn e1 k
    · cases h
  case h_11 n v st =>
    split at h
    · rename_i hi
      simp only [Bool.and_eq_true] at hi
      cases h
      have hn : (n : Nat) < nL := mx_blt hi.2
      have e1 := mx_lv_st1 hr lv (n : Nat) v
      rcases mx_isA_spec hr hi.1 with hx2 | ⟨x, hx2⟩ <;> simp only [List.map_cons, hx2] at e1 ⊢
      · exact lv_astore_nN hx hb hd rfl hl hn e1 k
      · exact lv_astore_n hx hb hd rfl hl hn e1 k
    · cases h
  case h_12 n v st =>
    split at h
    · rename_i hi
      simp only [Bool.and_eq_true] at hi
      cases h
      have hn : n < nL := mx_blt hi.2
      have e1 := mx_lv_st1 hr lv n v
      rcases mx_isA_spec hr hi.1 with hx2 | ⟨x, hx2⟩ <;> simp only [List.map_cons, hx2] at e1 ⊢
      · exact lv_astoreN hx hb hd hl hn e1 k
      · exact lv_astore hx hb hd hl hn e1 k
    · cases h
  case h_13 st n kk =>
    split at h
    · rename_i x hv
      split at h
      · rename_i hi
        cases h
        have hn : n < nL := mx_blt hi
        have e1 := mx_lv_st1 hr lv n (.int (x + Int32.ofInt kk))
        have hm : ((n, Value.int x) : Nat × Value) ∈ mx_lv r lv := List.mem_map.mpr ⟨(n, .int x), mx_lk hv, rfl⟩
        obtain ⟨q, hq⟩ := List.getElem?_of_mem hm
        exact lv_iinc hx hb hd hl hq rfl hn e1 k
      · cases h
    · cases h
  case h_14 => cases h
theorem mx_dec_spec {kb : mK} (hkb : mx_kb kb r) (hr : mx_r r B) {cn : ClassFile.Cond} {v u : Value} {b : Bool} (h : mx_dec kb cn v u = some b) : ∃ x y : Int32, mx_v r v = .int x ∧ mx_v r u = .int y ∧ mx_cmp cn x y = b := by
  unfold mx_dec at h
  split at h
  · cases h; exact ⟨_, _, rfl, rfl, rfl⟩
  · split at h
    · rename_i hi
      simp only [Bool.and_eq_true] at hi
      obtain ⟨x, hx⟩ := mx_isI_spec hr hi.1
      obtain ⟨y, hy⟩ := mx_isI_spec hr hi.2
      exact ⟨x, y, hx, hy, mx_kf_spec hkb h hx hy⟩
    · cases h
set_option maxHeartbeats 4000000 in
theorem mx_br_W (hx : p.tables.exec = Jvm.exec) (hb : c.code = cc) {kb : mK} (hkb : mx_kb kb r) (hr : mx_r r B) {i : Instr} {st st' : List Value} {pc' len : Nat} (hd : decode cc pc = .ok (i, len)) (hlen : len = mx_len i ∨ ∃ a b d f, i = .tableswitch a b d f) (h : mx_br kb pc i st = some (pc', st'))
    (k : W p l e R s m args below meth c H locs cells slots Q (F0 m pc' ls (st'.map (mx_v r)))) : W p l e R s m args below meth c H locs cells slots Q (F0 m pc ls (st.map (mx_v r))) := by
  unfold mx_br at h
  split at h
  case h_1 st off =>
    have hl : len = 3 := by
      rcases hlen with h | ⟨a, b, d, f, h⟩
      · exact h
      · cases h
    subst hl
    split at h
    · rename_i t ht
      cases h
      exact lv_goto hx hb hd (mx_tg_spec ht) k
    · cases h
  case h_2 cnd off v st =>
    have hl : len = 3 := by
      rcases hlen with h | ⟨a, b, d, f, h⟩
      · exact h
      · cases h
    subst hl
    split at h
    · rename_i t ht
      have ht := mx_tg_spec ht
      split at h
      · rename_i hdec
        obtain ⟨x, y, hv, hu, hc⟩ := mx_dec_spec hkb hr hdec
        cases hu
        cases h
        rw [List.map_cons, hv]
        cases cnd <;> simp only [mx_cmp, decide_eq_true_eq] at hc
        · exact lv_if_eq hx hb hd ht (fun _ => k) (fun q => absurd hc q)
        · exact lv_if_ne hx hb hd ht (fun _ => k) (fun q => absurd q hc)
        · exact lv_if_lt hx hb hd ht (fun _ => k) (fun q => absurd hc q)
        · exact lv_if_ge hx hb hd ht (fun _ => k) (fun q => absurd hc q)
        · exact lv_if_gt hx hb hd ht (fun _ => k) (fun q => absurd hc q)
        · exact lv_if_le hx hb hd ht (fun _ => k) (fun q => absurd hc q)
      · rename_i hdec
        obtain ⟨x, y, hv, hu, hc⟩ := mx_dec_spec hkb hr hdec
        cases hu
        cases h
        rw [List.map_cons, hv]
        cases cnd <;> simp only [mx_cmp, decide_eq_false_iff_not] at hc
        · exact lv_if_eq hx hb hd ht (fun q => absurd q hc) (fun _ => k)
        · exact lv_if_ne hx hb hd ht (fun q => absurd q hc) (fun _ => k)
        · exact lv_if_lt hx hb hd ht (fun q => absurd q hc) (fun _ => k)
        · exact lv_if_ge hx hb hd ht (fun q => absurd q hc) (fun _ => k)
        · exact lv_if_gt hx hb hd ht (fun q => absurd q hc) (fun _ => k)
        · exact lv_if_le hx hb hd ht (fun q => absurd q hc) (fun _ => k)
      · cases h
    · cases h
  case h_3 cnd off u v st =>
    have hl : len = 3 := by
      rcases hlen with h | ⟨a, b, d, f, h⟩
      · exact h
      · cases h
    subst hl
    split at h
    · rename_i t ht
      have ht := mx_tg_spec ht
      split at h
      · rename_i hdec
        obtain ⟨x, y, hv, hu, hc⟩ := mx_dec_spec hkb hr hdec
        cases h
        rw [List.map_cons, List.map_cons, hv, hu]
        cases cnd <;> simp only [mx_cmp, decide_eq_true_eq] at hc
        · exact lv_icmp_eq hx hb hd ht (fun _ => k) (fun q => absurd hc q)
        · exact lv_icmp_ne hx hb hd ht (fun _ => k) (fun q => absurd q hc)
        · exact lv_icmp_lt hx hb hd ht (fun _ => k) (fun q => absurd hc q)
        · exact lv_icmp_ge hx hb hd ht (fun _ => k) (fun q => absurd hc q)
        · exact lv_icmp_gt hx hb hd ht (fun _ => k) (fun q => absurd hc q)
        · exact lv_icmp_le hx hb hd ht (fun _ => k) (fun q => absurd hc q)
      · rename_i hdec
        obtain ⟨x, y, hv, hu, hc⟩ := mx_dec_spec hkb hr hdec
        cases h
        rw [List.map_cons, List.map_cons, hv, hu]
        cases cnd <;> simp only [mx_cmp, decide_eq_false_iff_not] at hc
        · exact lv_icmp_eq hx hb hd ht (fun q => absurd q hc) (fun _ => k)
        · exact lv_icmp_ne hx hb hd ht (fun q => absurd q hc) (fun _ => k)
        · exact lv_icmp_lt hx hb hd ht (fun q => absurd q hc) (fun _ => k)
        · exact lv_icmp_ge hx hb hd ht (fun q => absurd q hc) (fun _ => k)
        · exact lv_icmp_gt hx hb hd ht (fun q => absurd q hc) (fun _ => k)
        · exact lv_icmp_le hx hb hd ht (fun q => absurd q hc) (fun _ => k)
      · cases h
    · cases h
  case h_4 dflt lo hi offs x st =>
    split at h
    · rename_i hc
      split at h
      · rename_i t ht
        cases h
        exact lv_tableOut hx hb hd hc (mx_tg_spec ht) k
      · cases h
    · rename_i hc
      split at h
      · rename_i off ho
        split at h
        · rename_i t ht
          cases h
          exact lv_tableIn hx hb hd (fun q => hc (Or.inl q)) (fun q => hc (Or.inr q)) ho (mx_tg_spec ht) k
        · cases h
      · cases h
  case h_5 =>
    rename_i dflt lo hi offs v st0 hnv
    split at h
    · rename_i hc
      simp only [Bool.and_eq_true, Bool.or_eq_true, decide_eq_true_eq] at hc
      split at h
      · rename_i t ht
        cases h
        obtain ⟨x, hv⟩ := mx_isI_spec hr hc.1
        rw [List.map_cons, hv]
        refine lv_tableOut hx hb hd ?_ (mx_tg_spec ht) k
        rcases hc.2 with ⟨h1, h2⟩ | ⟨h1, h2⟩
        · left
          have h3 := mx_kf_spec hkb h1 hv (rfl : mx_v r (.int _) = _)
          simp only [mx_cmp, decide_eq_true_eq] at h3
          have h4 := Int32.lt_iff_toInt_lt.mp h3
          rw [h2] at h4
          exact h4
        · right
          have h3 := mx_kf_spec hkb h1 hv (rfl : mx_v r (.int _) = _)
          simp only [mx_cmp, decide_eq_true_eq] at h3
          have h4 := Int32.lt_iff_toInt_lt.mp h3
          rw [h2] at h4
          exact h4
      · cases h
    · cases h
  case h_6 => cases h
end MX
end
section
/-! ### the classes that are made: their words among the tables' -/
theorem mx_ws_of {ws : List Cond} (ps : List Nat) (hp : ws = ps.filterMap (fun i => lw_tbl[i]?)) (h : ws.all mx_ok = true) : ∀ w ∈ ws, w ∈ lw_tbl ∧ mx_ok w = true := by
  intro w hw
  have h1 := List.all_eq_true.mp h w hw
  rw [hp] at hw
  obtain ⟨i, -, hi⟩ := List.mem_filterMap.mp hw
  exact ⟨List.mem_of_getElem? hi, h1⟩
set_option maxRecDepth 100000 in
theorem mx_ws0 : ∀ w ∈ u_ws RX0 TX0 15, w ∈ lw_tbl ∧ mx_ok w = true := mx_ws_of [532, 534, 536, 538, 540, 542, 544, 546, 548, 550, 552, 554, 556, 558, 560] (by decide +kernel) (by decide +kernel)
theorem mx_in0 : mx_at 471 (.instantiable RX0 15) = true ∧ mx_at 155 (.initialized RX0) = true := by decide +kernel
theorem mx_dc0 : ∀ k, k < 15 → (TX0 k).1 = RX0 := by decide +kernel
set_option maxRecDepth 100000 in
theorem mx_ws1 : ∀ w ∈ u_ws RX1 TX1 7, w ∈ lw_tbl ∧ mx_ok w = true := mx_ws_of [285, 287, 289, 291, 293, 295, 297] (by decide +kernel) (by decide +kernel)
theorem mx_in1 : mx_at 270 (.instantiable RX1 7) = true ∧ mx_at 150 (.initialized RX1) = true := by decide +kernel
theorem mx_dc1 : ∀ k, k < 7 → (TX1 k).1 = RX1 := by decide +kernel
set_option maxRecDepth 100000 in
theorem mx_ws2 : ∀ w ∈ u_ws RX2 TX2 5, w ∈ lw_tbl ∧ mx_ok w = true := mx_ws_of [252, 254, 256, 258, 260] (by decide +kernel) (by decide +kernel)
theorem mx_in2 : mx_at 240 (.instantiable RX2 5) = true ∧ mx_at 148 (.initialized RX2) = true := by decide +kernel
theorem mx_dc2 : ∀ k, k < 5 → (TX2 k).1 = RX2 := by decide +kernel
set_option maxRecDepth 100000 in
theorem mx_ws3 : ∀ w ∈ u_ws RX3 TX3 11, w ∈ lw_tbl ∧ mx_ok w = true := mx_ws_of [447, 449, 451, 453, 455, 457, 459, 461, 463, 465, 467] (by decide +kernel) (by decide +kernel)
theorem mx_in3 : mx_at 424 (.instantiable RX3 11) = true ∧ mx_at 154 (.initialized RX3) = true := by decide +kernel
theorem mx_dc3 : ∀ k, k < 11 → (TX3 k).1 = RX3 := by decide +kernel
set_option maxRecDepth 100000 in
theorem mx_ws4 : ∀ w ∈ u_ws RX4 TX4 15, w ∈ lw_tbl ∧ mx_ok w = true := mx_ws_of [392, 394, 396, 398, 400, 402, 404, 406, 408, 410, 412, 414, 416, 418, 420] (by decide +kernel) (by decide +kernel)
theorem mx_in4 : mx_at 264 (.instantiable RX4 15) = true ∧ mx_at 149 (.initialized RX4) = true := by decide +kernel
theorem mx_dc4 : ∀ k, k < 15 → (TX4 k).1 = RX4 := by decide +kernel
set_option maxRecDepth 100000 in
theorem mx_ws5 : ∀ w ∈ u_ws RX5 TX5 9, w ∈ lw_tbl ∧ mx_ok w = true := mx_ws_of [196, 198, 200, 202, 204, 206, 208, 210, 212] (by decide +kernel) (by decide +kernel)
theorem mx_in5 : mx_at 178 (.instantiable RX5 9) = true ∧ mx_at 146 (.initialized RX5) = true := by decide +kernel
theorem mx_dc5 : ∀ k, k < 9 → (TX5 k).1 = RX5 := by decide +kernel
set_option maxRecDepth 100000 in
theorem mx_ws6 : ∀ w ∈ u_ws RX6 TX6 9, w ∈ lw_tbl ∧ mx_ok w = true := mx_ws_of [491, 493, 495, 497, 499, 501, 503, 505, 507] (by decide +kernel) (by decide +kernel)
theorem mx_in6 : mx_at 477 (.instantiable RX6 9) = true ∧ mx_at 156 (.initialized RX6) = true := by decide +kernel
theorem mx_dc6 : ∀ k, k < 9 → (TX6 k).1 = RX6 := by decide +kernel
set_option maxRecDepth 100000 in
theorem mx_ws7 : ∀ w ∈ u_ws RX7 TX7 4, w ∈ lw_tbl ∧ mx_ok w = true := mx_ws_of [230, 232, 234, 236] (by decide +kernel) (by decide +kernel)
theorem mx_in7 : mx_at 218 (.instantiable RX7 4) = true ∧ mx_at 147 (.initialized RX7) = true := by decide +kernel
theorem mx_dc7 : ∀ k, k < 4 → (TX7 k).1 = RX7 := by decide +kernel
set_option maxRecDepth 100000 in
theorem mx_ws8 : ∀ w ∈ u_ws RX8 TX8 8, w ∈ lw_tbl ∧ mx_ok w = true := mx_ws_of [618, 620, 622, 624, 626, 628, 630, 632] (by decide +kernel) (by decide +kernel)
theorem mx_in8 : mx_at 170 (.instantiable RX8 8) = true ∧ mx_at 145 (.initialized RX8) = true := by decide +kernel
theorem mx_dc8 : ∀ k, k < 8 → (TX8 k).1 = RX8 := by decide +kernel
set_option maxRecDepth 100000 in
theorem mx_ws9 : ∀ w ∈ u_ws RX9 TX9 77, w ∈ lw_tbl ∧ mx_ok w = true := mx_ws_of [1370, 1372, 1374, 1376, 1378, 1380, 1382, 1384, 1386, 1388, 1390, 1392, 1394, 1396, 1398, 1400, 1402, 1404, 1406, 1408, 1410, 1412, 1414, 1416, 1418, 1420, 1422, 1424, 1426, 1428, 1430, 1432, 1434, 1436, 1438, 1440, 1442, 1444, 1446, 1448, 1450, 1452, 1454, 1456, 1458, 1460, 1462, 1464, 1466, 1468, 1470, 1472, 1474, 1476, 1478, 1480, 1482, 1484, 1486, 1488, 1490, 1492, 1494, 1496, 1498, 1500, 1502, 1504, 1506, 1508, 1510, 1512, 1514, 1516, 1518, 1520, 1522] (by decide +kernel) (by decide +kernel)
theorem mx_in9 : mx_at 1260 (.instantiable RX9 77) = true ∧ mx_at 157 (.initialized RX9) = true := by decide +kernel
theorem mx_dc9 : ∀ k, k < 77 → (TX9 k).1 = RX9 := by decide +kernel
/-- what is known of a class by its number -/
def mx_C (ci : Nat) (q : vw_C) : Prop := (∀ w ∈ u_ws q.1 q.2.1 q.2.2, w ∈ lw_tbl ∧ mx_ok w = true) ∧ (∀ k, k < q.2.2 → parseFieldDescriptor (q.2.1 k).2.2.1 = some (mx_ty ci k)) ∧ (∀ a, a < q.2.2 → ∀ b, b < q.2.2 → a ≠ b → (q.2.1 a).2.1 ≠ (q.2.1 b).2.1) ∧ (∀ k, k < q.2.2 → (q.2.1 k).1 = q.1) ∧ ∃ i j, mx_at i (.instantiable q.1 q.2.2) = true ∧ mx_at j (.initialized q.1) = true
theorem mx_C_of {ci : Nat} {q : vw_C} (h : mx_cl[ci]? = some q) : mx_C ci q := by
  match ci, h with
  | 0, h => cases h; exact ⟨mx_ws0, tyX0_ok, nmX0, mx_dc0, _, _, mx_in0⟩
  | 1, h => cases h; exact ⟨mx_ws1, tyX1_ok, nmX1, mx_dc1, _, _, mx_in1⟩
  | 2, h => cases h; exact ⟨mx_ws2, tyX2_ok, nmX2, mx_dc2, _, _, mx_in2⟩
  | 3, h => cases h; exact ⟨mx_ws3, tyX3_ok, nmX3, mx_dc3, _, _, mx_in3⟩
  | 4, h => cases h; exact ⟨mx_ws4, tyX4_ok, nmX4, mx_dc4, _, _, mx_in4⟩
  | 5, h => cases h; exact ⟨mx_ws5, tyX5_ok, nmX5, mx_dc5, _, _, mx_in5⟩
  | 6, h => cases h; exact ⟨mx_ws6, tyX6_ok, nmX6, mx_dc6, _, _, mx_in6⟩
  | 7, h => cases h; exact ⟨mx_ws7, tyX7_ok, nmX7, mx_dc7, _, _, mx_in7⟩
  | 8, h => cases h; exact ⟨mx_ws8, tyX8_ok, nmX8, mx_dc8, _, _, mx_in8⟩
  | 9, h => cases h; exact ⟨mx_ws9, tyX9_ok, nmX9, mx_dc9, _, _, mx_in9⟩
  | n + 10, h => simp [mx_cl] at h
theorem mx_ar_int : mx_at 215 (.arrayClass .int) = true := by decide +kernel
theorem mx_ar_long : mx_at 216 (.arrayClass .long) = true := by decide +kernel
theorem mx_ar_boolean : mx_at 1525 (.arrayClass .boolean) = true := by decide +kernel
theorem mx_ar_byte : mx_at 935 (.arrayClass .byte) = true := by decide +kernel
theorem mx_oi : mx_at 175 (.instanceMethod objectInit) = true ∧ mx_at 176 (.code objectInit ⟨#[0xb1]⟩ 1 none) = true := by decide +kernel
end
section
/-! ### fields, rows, new cells -/
def mx_in (x : Int32) (n : Nat) : Bool := decide (0 ≤ x.toInt) && decide (x.toInt < (n : Int))
theorem mx_in_spec {x : Int32} {n : Nat} (h : mx_in x n = true) : vp_in x n := by
  simp only [mx_in, Bool.and_eq_true, decide_eq_true_eq] at h
  exact vp_in_iff.mpr h
def mx_fit (ty : FieldType) (v : Value) : Bool := match v with
  | .ref j => Nat.blt j mx_E && (match ty with | .object _ => true | .array _ => true | _ => false)
  | v => decide (narrow ty v = v) && fits ty v
def mx_kind (t : ArrayType) : Option Nat := match t with
  | .int => some 0 | .long => some 1 | .boolean => some 2 | .byte => some 3 | _ => none
def mx_new (k n : Nat) : mE := if k = 1 then .inr ((1, n), .inr (0, [])) else .inr ((k, n), .inl (0, []))
def mx_defs (ci N : Nat) : List Value := (List.range N).map (fun k => defaultValue (mx_ty ci k))
def mx_nf (ci k : Nat) : Bool := match mx_cl[ci]? with
  | some q => !(q.2.1 k).2.2.2
  | none => false
def mx_al (kb : mK) : Bool := decide (mx_kf kb (.eq, .ref mx_F, .int 0) = some true)
def mx_mem (kb : mK) (sc : Option Nat) (ini : Option Nat) (lk : List (Nat × mL)) (i : Instr) (st : List Value) (w : mW) : Option (List Value × mW) := match i, st with
  | .getfield ix, .ref j :: st => match lk.lookup ix with
    | some (t, ci, k, _) => match w.1[j]? with
      | some (.inl (ci', fs)) => if Nat.ble t 1 && Nat.beq ci ci' then (match fs[k]? with | some v => some (v :: st, w) | none => none) else none
      | _ => none
    | none => none
  | .putfield ix, v :: .ref j :: st => match lk.lookup ix with
    | some (t, ci, k, _) => match w.1[j]? with
      | some (.inl (ci', fs)) => if Nat.ble t 1 && Nat.beq ci ci' && Nat.blt k fs.length && mx_fit (mx_ty ci k) v && (mx_nf ci k || (Nat.beq t 0 && decide (ini = some ci))) then some (st, (w.1.set j (.inl (ci', fs.set k v)), w.2)) else none
      | _ => none
    | none => none
  | .iaload, .int x :: .ref j :: st => if Nat.beq j mx_E then (match sc with | some L => if mx_in x L then some (.ref (mx_E + 1 + x.toNatClampNeg) :: st, w) else none | none => none) else
    match w.1[j]? with
      | some (.inr ((k, n), .inl a)) => if Nat.beq k 0 && mx_in x n then some (.int (mx_g a x.toNatClampNeg) :: st, w) else none
      | _ => none
  | .laload, .int x :: .ref j :: st => match w.1[j]? with
      | some (.inr ((k, n), .inr a)) => if Nat.beq k 1 && mx_in x n then some (.long (mx_g a x.toNatClampNeg) :: st, w) else none
      | _ => none
  | .baload, .int x :: .ref j :: st => match w.1[j]? with
      | some (.inr ((k, n), .inl a)) => if (Nat.beq k 2 || Nat.beq k 3) && mx_in x n then some (.int (mx_g a x.toNatClampNeg) :: st, w) else none
      | _ => none
  | .iastore, .int v :: .int x :: .ref j :: st => match w.1[j]? with
      | some (.inr ((k, n), .inl a)) => if Nat.beq k 0 && mx_in x n then some (st, (w.1.set j (.inr ((k, n), .inl (mx_s a x.toNatClampNeg v))), w.2)) else none
      | _ => none
  | .lastore, .long v :: .int x :: .ref j :: st => match w.1[j]? with
      | some (.inr ((k, n), .inr a)) => if Nat.beq k 1 && mx_in x n then some (st, (w.1.set j (.inr ((k, n), .inr (mx_s a x.toNatClampNeg v))), w.2)) else none
      | _ => none
  | .bastore, .int v :: .int x :: .ref j :: st => match w.1[j]? with
      | some (.inr ((k, n), .inl a)) => if Nat.beq k 2 && mx_in x n then some (st, (w.1.set j (.inr ((k, n), .inl (mx_s a x.toNatClampNeg (vp_nar .boolean v)))), w.2))
          else if Nat.beq k 3 && mx_in x n then some (st, (w.1.set j (.inr ((k, n), .inl (mx_s a x.toNatClampNeg (vp_nar .byte v)))), w.2)) else none
      | _ => none
  | .arraylength, .ref j :: st => if Nat.beq j mx_E then (match sc with | some L => some (.int (Int32.ofNat L) :: st, w) | none => none) else
    match w.1[j]? with
      | some (.inr ((k, n), _)) => if Nat.blt k 4 then some (.int (Int32.ofNat n) :: st, w) else none
      | _ => none
  | .newarray t, .int n :: st => match mx_kind t with
      | some k => if decide (¬ n < 0) && Nat.ble n.toNatClampNeg 1000000 && Nat.blt w.1.length mx_E && mx_al kb then some (.ref w.1.length :: st, (w.1 ++ [mx_new k n.toNatClampNeg], w.2 + n.toNatClampNeg)) else none
      | none => none
  | .new ix, st => match lk.lookup ix with
      | some (t, ci, _, _) => match mx_cl[ci]? with
        | some q => if Nat.beq t 9 && Nat.blt w.1.length mx_E && mx_al kb then some (.ref w.1.length :: st, (w.1 ++ [.inl (ci, mx_defs ci q.2.2)], w.2 + q.2.2)) else none
        | none => none
      | none => none
  | .ldc ix, st => match lk.lookup ix with
      | some (t, _, _, n) => if Nat.beq t 10 then some (.int (Int32.ofInt n) :: st, w) else none
      | none => none
  | .ldc2_w ix, st => match lk.lookup ix with
      | some (t, _, _, n) => if Nat.beq t 11 then some (.long (Int64.ofInt n) :: st, w) else none
      | none => none
  | .invokespecial ix, .ref j :: st => match lk.lookup ix with
      | some (t, _, _, _) => if Nat.beq t 8 && Nat.ble j mx_E && Nat.ble ((st.map fun v => v.category).sum) 8 then some (st, w) else none
      | none => none
  | _, _ => none
/-- the links of a method's class file are among the tables' words -/
def mx_lkok (nms : Nat → Option MethodName) (own : String) (x : Nat × mL) : Bool := match x with
  | (ix, t, a, b, z) => match t with
    | 0 => match mx_cl[a]? with | some q => Nat.blt b q.2.2 && mx_at z.toNat (.fieldLink own ix q.1 (q.2.1 b).2.1 (q.2.1 b).2.2.1) | none => false
    | 1 => match mx_cl[a]? with | some q => Nat.blt b q.2.2 && mx_at z.toNat (.fieldLinkNest own ix q.1 (q.2.1 b).2.1 (q.2.1 b).2.2.1 "BoundTables") | none => false
    | 8 => mx_at z.toNat (.methodLink own ix objectInit)
    | 9 => match mx_cl[a]? with | some q => mx_at z.toNat (.classLink own ix q.1) | none => false
    | 10 => mx_at b (.constant own ix (Int32.ofInt z))
    | 11 => mx_at b (.constantLong own ix (Int64.ofInt z))
    | 2 => match nms a with | some y => mx_at z.toNat (.methodLink own ix y) | none => false
    | 4 => match nms a with | some y => mx_at z.toNat (.methodLink own ix y) | none => false
    | 6 => match nms a with | some y => mx_at z.toNat (.methodLink own ix y) | none => false
    | 3 => match nms a with | some y => mx_at z.toNat (.methodLinkNest own ix y "BoundTables") | none => false
    | 5 => match nms a with | some y => mx_at z.toNat (.methodLinkNest own ix y "BoundTables") | none => false
    | 7 => match nms a with | some y => mx_at z.toNat (.methodLinkNest own ix y "BoundTables") | none => false
    | _ => false
theorem mx_lkl {lk : List (Nat × mL)} {i : Nat} {v : mL} (h : lk.lookup i = some v) : (i, v) ∈ lk := by
  induction lk with
  | nil => simp at h
  | cons q t ih =>
    obtain ⟨j, u⟩ := q
    by_cases hj : i = j
    · subst hj
      simp [List.lookup] at h
      simp [h]
    · have : (i == j) = false := by simpa using hj
      simp [List.lookup, this] at h
      exact List.mem_cons_of_mem _ (ih h)
/-- cells and slots never grow fewer -/
theorem mx_mem_mono {kb : mK} {sc ini : Option Nat} {lk : List (Nat × mL)} {i : Instr} {st st' : List Value} {w w' : mW} (h : mx_mem kb sc ini lk i st w = some (st', w')) : w.1.length ≤ w'.1.length ∧ w.2 ≤ w'.2 := by
  unfold mx_mem at h
  split at h <;> (repeat' split at h) <;> first | (cases h; done) | (cases h; simp)
theorem mx_al_spec {kb : mK} {r : Nat → Value} {B : Nat} (hkb : mx_kb kb r) (hr : mx_r r B) (h : mx_al kb = true) : r mx_F = .int 0 := by
  simp only [mx_al, decide_eq_true_eq] at h
  obtain ⟨x, hx⟩ := hr.2.2 mx_F (by decide)
  have h1 := mx_kf_spec hkb h (show mx_v r (.ref mx_F) = .int x from hx) (rfl : mx_v r (.int 0) = _)
  simp only [mx_cmp, decide_eq_true_eq] at h1
  rw [hx, h1]
section MX2
variable {p : Program} {l : Launch} {e : Env} {R : Room} {s : State} {m : MethodId} {args : Array Value} {below : List Frame} {meth : Method} {c : Code} {H : Heap} {locs : List Loc} {cells slots : Nat} {Q : State → Prop}
variable {cc : ByteArray} {pc nL : Nat} {ls : Array Slot} {r : Nat → Value} {B : Nat} {D : va_G} {cy : Nat → ClassId} {H0 : Heap}
theorem mx_fit_spec (hr : mx_r r B) {ty : FieldType} {v : Value} (h : mx_fit ty v = true) : narrow ty (mx_v r v) = mx_v r v ∧ fits ty (mx_v r v) = true := by
  unfold mx_fit at h
  split at h
  · rename_i j
    simp only [Bool.and_eq_true] at h
    rw [mx_v_ref, hr.1 j (mx_blt h.1)]
    cases ty <;> first | (cases h.2; done) | exact ⟨rfl, rfl⟩
  · rename_i hv
    simp only [Bool.and_eq_true, decide_eq_true_eq] at h
    have : mx_v r v = v := by cases v <;> first | rfl | exact absurd rfl (hv _)
    rw [this]
    exact h
/-- a field is written -/
theorem mx_put (hx : p.tables.exec = Jvm.exec) (hb : c.code = cc) {own : String} {q : vw_C} {ci ix k j t : Nat} (hE : mx_Env s) (hown : s.vm.findClass own = some m.cls) (hK : va_K D mx_cl (mx_tys cy) s) (hr : mx_r r B) {w : mW} (hR : mx_R D cy r B w H) (hS : va_S (fun q => B ≤ q) H0 H locs) (hcl : mx_cl[ci]? = some q) (hk : k < q.2.2) {fs : List Value} (hj : w.1[j]? = some (.inl (ci, fs))) (hkl : k < fs.length) {v : Value} (hfit : mx_fit (mx_ty ci k) v = true)
    (hlink : (t = 0 ∧ (Cond.fieldLink own ix q.1 (q.2.1 k).2.1 (q.2.1 k).2.2.1).before args s = true) ∨ (t = 1 ∧ (Cond.fieldLinkNest own ix q.1 (q.2.1 k).2.1 (q.2.1 k).2.2.1 "BoundTables").before args s = true))
    (hfin : (q.2.1 k).2.2.2 = false ∨ (t = 0 ∧ (q.2.1 k).2.2.2 = true ∧ meth.name = "<init>" ∧ own = q.1)) {rest : List Value} (hd : decode cc pc = .ok (.putfield ix, 3))
    (kk : ∀ (H1 : Heap) (locs1 : List Loc), mx_R D cy r B (w.1.set j (.inl (ci, fs.set k v)), w.2) H1 → va_S (fun q => B ≤ q) H0 H1 locs1 → W p l e R s m args below meth c H1 locs1 cells slots Q (F0 m (pc + 3) ls rest)) : W p l e R s m args below meth c H locs cells slots Q (F0 m pc ls (mx_v r v :: .ref (B + j) :: rest)) := by
  obtain ⟨hws, hty, hnm, hdc, -⟩ := mx_C_of hcl
  obtain ⟨C, T, N⟩ := q
  have hts : ∀ w ∈ u_ws C T N, w.before args s = true := fun w hw => hE w (hws w hw).1 (hws w hw).2 args
  have hap := va_apart (own := own) hts (fun w h => h) (mx_ty ci) hty hnm hK hcl
  obtain ⟨h1, h2, hP⟩ := id hR
  obtain ⟨r', h1', cell, q1, q2, q3, q4⟩ := hP j _ (mx_abs_get hj)
  have hr' : r' = (C, T, N) := Option.some.inj (h1'.symm.trans hcl)
  subst hr'
  obtain ⟨hSl, hfc, kC, hkC, hkind⟩ := hK.1 ci _ hcl
  obtain ⟨cf, kf, fi, f, hi, hsl⟩ := hSl k hk
  have hlay := hts _ (u_in_lay hk)
  have hst := (u_facts hfc hkC (u_lays hts (fun w h => h) hk) hi).1
  obtain ⟨hn, hft⟩ := mx_fit_spec hr hfit
  have hsame : s.fieldFound? C (T k).2.1 (T k).2.2.1 = some (cf, kf, fi, f) := by have := hdc k hk; dsimp only at this; rw [← this]; exact hi
  have hkl' : k < (fs.map (mx_v r)).length := by simpa using hkl
  have fin : ∀ (H' : Heap), H'[B + j]? = some (cell.setSlot f.slot (mx_v r v)) → H'.size = H.size → (∀ q, q ≠ B + j → H'[q]? = H[q]?) → W p l e R s m args below meth c H' (locs ++ [⟨B + j, f.slot⟩]) cells slots Q (F0 m (pc + 3) ls rest) := by
    intro H' e1 e2 e3
    rw [hsl] at e1 ⊢
    refine kk H' _ (hR.set hj e2 e3 ?_) (hS.put e2 e3 (Nat.le_add_right B j))
    refine ⟨_, hcl, t_OB.to (V := updV (vp_V (fs.map (mx_v r))) k (mx_v r v)) ⟨_, e1, q2, q3, t_set q4 hap hk _⟩ (fun i _ => ?_)⟩
    rw [vp_updV_set hkl', List.map_set]
  have hlt : f.slot < cell.slots.size := by rw [hsl]; exact k2_hasslot (q4 k hk)
  rcases hfin with hfin | ⟨ht, hfin, hmn, ho⟩
  · unfold u_lay at hlay
    rw [if_neg (by rw [hfin]; decide)] at hlay
    have h6 := u_store hfc hkC hkind hlay hi (hty k hk) hn hft
    rcases hlink with ⟨-, hlink⟩ | ⟨-, hlink⟩
    · exact W.putK hx hb (f := f) ⟨hown, hlink, ⟨_, _, _, hsame⟩, hst⟩ (by rw [q2]; exact h6) q1 q3 hlt rfl rfl hd fin
    · exact va_WputK hx hb (f := f) hown hlink hsame hst (by rw [q2]; exact h6) q1 q3 hlt rfl rfl hd fin
  · rcases hlink with ⟨-, hlink⟩ | ⟨ht1, -⟩
    · unfold u_lay at hlay
      rw [if_pos hfin] at hlay
      have hcf : m.cls = cf := by
        obtain ⟨_, _, c', _, _, _, -, -, hf', -, -, -, hown2, -⟩ := Cond.laysFinal_spec hlay
        have e1 : c' = cf := by have := hi.symm.trans hf'; simp at this; exact this.1.symm
        rw [show (T k).1 = own by rw [ho]; exact hdc k hk] at hown2
        rw [← e1]; exact Option.some.inj (hown.symm.trans hown2)
      have h6 := u_fits hfc hkC hkind (Or.inr hlay) hi (hty k hk) hn hft
      exact W.putFinK hx hb hown hlink hsame hst hcf hmn (by rw [q2]; exact h6) q1 q3 hlt rfl rfl hd fin
    · omega
/-- what a row's place holds once it is written -/
theorem mx_rowI {H1 : Heap} {a cA k n : Nat} {b : mI} {x : Int32} (e : H1[a]? = some ((arrV cA n (fun j => Value.int (mx_g b j))).setSlot k (.int x))) : H1[a]? = some (vp_cell cA (n, .inl (mx_g (mx_s b k x)))) := by
  rw [e, vp_cell_i, arrV_store]
  congr 2
  funext q
  rw [mx_g_s]
  by_cases hq : q = k <;> simp [updV, hq]
theorem mx_rowJ {H1 : Heap} {a cA k n : Nat} {b : mJ} {x : Int64} (e : H1[a]? = some ((arrV cA n (fun j => Value.long (mx_g b j))).setSlot k (.long x))) : H1[a]? = some (vp_cell cA (n, .inr (.inl (mx_g (mx_s b k x))))) := by
  rw [e, vp_cell_l, arrV_store]
  congr 2
  funext q
  rw [mx_g_s]
  by_cases hq : q = k <;> simp [updV, hq]
end MX2
end
section
theorem mx_R.ref {D : va_G} {cy : Nat → ClassId} {r : Nat → Value} {B : Nat} {w : mW} {H : Heap} (h : mx_R D cy r B w H) (hr : mx_r r B) {j : Nat} {c : mE} (hj : w.1[j]? = some c) : r j = .ref (B + j) :=
  hr.1 j (Nat.lt_of_lt_of_le (List.getElem?_eq_some_iff.mp hj).1 h.2.1)
/-- what the script's words are -/
def mx_sc (sc : Option Nat) (r : Nat → Value) (B : Nat) (s : State) (H0 : Heap) : Prop := ∀ L, sc = some L → ∃ (b : Nat) (xs : Nat → Int32), r mx_E = .ref b ∧ va_X b L xs s H0 ∧ b < H0.size ∧ ¬ B ≤ b ∧ ∀ i, i < L → r (mx_E + 1 + i) = .int (xs i)
section MX3
variable {p : Program} {l : Launch} {e : Env} {R : Room} {s : State} {m : MethodId} {args : Array Value} {below : List Frame} {meth : Method} {c : Code} {H : Heap} {locs : List Loc} {cells slots : Nat} {Q : State → Prop}
variable {cc : ByteArray} {pc nL : Nat} {ls : Array Slot} {r : Nat → Value} {B : Nat} {D : va_G} {cy : Nat → ClassId} {H0 : Heap}
set_option maxHeartbeats 4000000 in
theorem mx_mem_W (hx : p.tables.exec = Jvm.exec) (hb : c.code = cc) {kb : mK} (hkb : mx_kb kb r) {own : String} {nms : Nat → Option MethodName} {sc ini : Option Nat} {lk : List (Nat × mL)} {n0 z0 : Nat} (hE : mx_Env s) (hown : s.vm.findClass own = some m.cls) (hK : va_K D mx_cl (mx_tys cy) s) (hr : mx_r r B)
    (hlk : ∀ x ∈ lk, mx_lkok nms own x = true) (hini : ∀ ci, ini = some ci → meth.name = "<init>" ∧ ∃ q, mx_cl[ci]? = some q ∧ own = q.1) (hsc : mx_sc sc r B s H0) (hfr : 1 ≤ R.frames) (hlo : 20 ≤ R.locals) (hls : ls.size = c.maxLocals)
    {i : Instr} {st st' : List Value} {w w' : mW} (hR : mx_R D cy r B w H) (hS : va_S (fun q => B ≤ q) H0 H locs) (hn0 : n0 ≤ w.1.length) (hz0 : z0 ≤ w.2) (hrc : w'.1.length - n0 ≤ R.cells) (hrs : w'.2 - z0 ≤ R.slots)
    (hd : decode cc pc = .ok (i, mx_len i)) (h : mx_mem kb sc ini lk i st w = some (st', w'))
    (k : ∀ (H' : Heap) (locs' : List Loc), mx_R D cy r B w' H' → va_S (fun q => B ≤ q) H0 H' locs' → W p l e R s m args below meth c H' locs' (w'.1.length - n0) (w'.2 - z0) Q (F0 m (pc + mx_len i) ls (st'.map (mx_v r)))) :
    W p l e R s m args below meth c H locs (w.1.length - n0) (w.2 - z0) Q (F0 m pc ls (st.map (mx_v r))) := by
  have hP := hR.2.2
  unfold mx_mem at h
  split at h
  case h_1 =>
    split at h
    · rename_i t ci kf zf hlf
      split at h
      · rename_i ci' fs hj
        split at h
        · rename_i hc
          simp only [Bool.and_eq_true] at hc
          split at h
          · rename_i v hv
            cases h
            have hci : ci = ci' := Nat.eq_of_beq_eq_true hc.2
            subst hci
            have h9 := hlk _ (mx_lkl hlf)
            have ht : t = 0 ∨ t = 1 := by have := Nat.le_of_ble_eq_true hc.1; omega
            have hv' : (fs.map (mx_v r))[kf]? = some (mx_v r v) := by simp [hv]
            have kk := k H locs hR hS
            simp only [List.map_cons, mx_v_ref, hR.ref hr hj] at kk ⊢
            rcases ht with rfl | rfl <;> simp only [mx_lkok] at h9 <;> split at h9 <;> first | (cases h9; done) | skip
            all_goals
              rename_i q hcl
              simp only [Bool.and_eq_true] at h9
              obtain ⟨hws, hty, hnm, hdc, -⟩ := mx_C_of hcl
              have hts : ∀ w ∈ u_ws q.1 q.2.1 q.2.2, w.before args s = true := fun w hw => hE w (hws w hw).1 (hws w hw).2 args
              have hkk := mx_blt h9.1
              have hsame : ∀ x, s.fieldFound? (q.2.1 kf).1 (q.2.1 kf).2.1 (q.2.1 kf).2.2.1 = some x → s.fieldFound? q.1 (q.2.1 kf).2.1 (q.2.1 kf).2.2.1 = some x := fun x hx => by rw [← hdc kf hkk]; exact hx
            · exact va_get hx hb hts (fun w h => h) hown hK hP _ (mx_abs_get hj) hcl kf hkk (mx_at_use h9.2 hE) hsame hv' hd kk
            · exact va_getN hx hb hts (fun w h => h) hown hK hP _ (mx_abs_get hj) hcl kf hkk (mx_at_use h9.2 hE) hsame hv' hd kk
          · cases h
        · cases h
      · cases h
    · cases h
  case h_2 ix v j st2 =>
    split at h
    · rename_i t ci kf zf hlf
      split at h
      · rename_i ci' fs hj
        split at h
        · rename_i hc
          simp only [Bool.and_eq_true, Bool.or_eq_true, decide_eq_true_eq] at hc
          cases h
          obtain ⟨⟨⟨⟨hc1, hc2⟩, hc3⟩, hc4⟩, hc5⟩ := hc
          have hci : ci = ci' := Nat.eq_of_beq_eq_true hc2
          subst hci
          have h9 := hlk _ (mx_lkl hlf)
          have ht : t = 0 ∨ t = 1 := by have := Nat.le_of_ble_eq_true hc1; omega
          simp only [List.map_cons, mx_v_ref, hR.ref hr hj, List.length_set] at k ⊢
          have key : ∀ q : vw_C, mx_cl[ci]? = some q → Nat.blt kf q.2.2 = true → (t = 0 ∧ (Cond.fieldLink own ix q.1 (q.2.1 kf).2.1 (q.2.1 kf).2.2.1).before args s = true) ∨ (t = 1 ∧ (Cond.fieldLinkNest own ix q.1 (q.2.1 kf).2.1 (q.2.1 kf).2.2.1 "BoundTables").before args s = true) → W p l e R s m args below meth c H locs (w.1.length - n0) (w.2 - z0) Q (F0 m pc ls (mx_v r v :: .ref (B + j) :: st'.map (mx_v r))) := by
            intro q hcl hkk hlink
            refine mx_put hx hb hE hown hK hr hR hS hcl (mx_blt hkk) hj (mx_blt hc3) hc4 hlink ?_ hd k
            rcases hc5 with hc5 | ⟨hc5, hc6⟩
            · left
              simp only [mx_nf, hcl] at hc5
              simpa using hc5
            · obtain ⟨g1, q', g2, g3⟩ := hini _ hc6
              cases hcl.symm.trans g2
              by_cases hf : (q.2.1 kf).2.2.2 = true
              · exact Or.inr ⟨Nat.eq_of_beq_eq_true hc5, hf, g1, g3⟩
              · exact Or.inl (by simpa using hf)
          rcases ht with rfl | rfl <;> simp only [mx_lkok] at h9 <;> split at h9 <;> first | (cases h9; done) | skip
          · rename_i q hcl
            simp only [Bool.and_eq_true] at h9
            exact key q hcl h9.1 (Or.inl ⟨rfl, mx_at_use h9.2 hE⟩)
          · rename_i q hcl
            simp only [Bool.and_eq_true] at h9
            exact key q hcl h9.1 (Or.inr ⟨rfl, mx_at_use h9.2 hE⟩)
        · cases h
      · cases h
    · cases h
  case h_3 =>
    split at h
    · rename_i hj
      have hj := Nat.eq_of_beq_eq_true hj
      subst hj
      split at h
      · rename_i L
        split at h
        · rename_i hin
          cases h
          obtain ⟨b, xs, g1, g2, g3, g4, g5⟩ := hsc L rfl
          have hin := mx_in_spec hin
          have kk := k H locs hR hS
          simp only [List.map_cons, mx_v_ref, mx_v_int, g1] at kk ⊢
          rw [g5 _ (Nat.not_le.mp fun q => hin (Or.inr q))] at kk
          exact va_sld hx hb g2 g3 g4 hS hin hd kk
        · cases h
      · cases h
    · split at h
      · rename_i kq n a hj
        split at h
        · rename_i hc
          simp only [Bool.and_eq_true] at hc
          cases h
          have hk0 : kq = 0 := Nat.eq_of_beq_eq_true hc.1
          subst hk0
          have kk := k H locs hR hS
          simp only [List.map_cons, mx_v_ref, mx_v_int, hR.ref hr hj] at kk ⊢
          exact va_iald hx hb hK hP _ 0 (mx_abs_get hj) rfl (mx_in_spec hc.2) hd kk
        · cases h
      · cases h
  case h_4 =>
    split at h
    · rename_i kq n a hj
      split at h
      · rename_i hc
        simp only [Bool.and_eq_true] at hc
        cases h
        have hk0 : kq = 1 := Nat.eq_of_beq_eq_true hc.1
        subst hk0
        have kk := k H locs hR hS
        simp only [List.map_cons, mx_v_ref, mx_v_int, mx_v_long, hR.ref hr hj] at kk ⊢
        exact va_lald hx hb hK hP _ 1 (mx_abs_get hj) rfl (mx_in_spec hc.2) hd kk
      · cases h
    · cases h
  case h_5 =>
    split at h
    · rename_i kq n a hj
      split at h
      · rename_i hc
        simp only [Bool.and_eq_true, Bool.or_eq_true] at hc
        cases h
        have kk := k H locs hR hS
        simp only [List.map_cons, mx_v_ref, mx_v_int, hR.ref hr hj] at kk ⊢
        rcases hc.1 with hk0 | hk0
        · have hk0 : kq = 2 := Nat.eq_of_beq_eq_true hk0
          subst hk0
          exact va_zald hx hb hK hP _ 2 (mx_abs_get hj) rfl (mx_in_spec hc.2) hd kk
        · have hk0 : kq = 3 := Nat.eq_of_beq_eq_true hk0
          subst hk0
          exact va_bald hx hb hK hP _ 3 (mx_abs_get hj) rfl (mx_in_spec hc.2) hd kk
      · cases h
    · cases h
  case h_6 =>
    split at h
    · rename_i kq n a hj
      split at h
      · rename_i hc
        simp only [Bool.and_eq_true] at hc
        cases h
        have hk0 : kq = 0 := Nat.eq_of_beq_eq_true hc.1
        subst hk0
        simp only [List.map_cons, mx_v_ref, mx_v_int, hR.ref hr hj, List.length_set] at k ⊢
        refine W.iast hx hb (hP _ _ (mx_abs_get hj)) ((hK.2 0 _ rfl).1 n (fun j => .int (mx_g a j))) (fun q => by cases q) (by show ¬ (_ ∨ (arrV _ _ _).slots.size ≤ _); rw [arrV_size]; exact mx_in_spec hc.2) rfl rfl hd fun H1 e1 z1 o1 => ?_
        exact k H1 _ (hR.set hj z1 o1 (mx_rowI e1)) (hS.put z1 o1 (Nat.le_add_right B _))
      · cases h
    · cases h
  case h_7 =>
    split at h
    · rename_i kq n a hj
      split at h
      · rename_i hc
        simp only [Bool.and_eq_true] at hc
        cases h
        have hk0 : kq = 1 := Nat.eq_of_beq_eq_true hc.1
        subst hk0
        simp only [List.map_cons, mx_v_ref, mx_v_int, mx_v_long, hR.ref hr hj, List.length_set] at k ⊢
        refine W.last hx hb (hP _ _ (mx_abs_get hj)) ((hK.2 1 _ rfl).1 n (fun j => .long (mx_g a j))) (fun q => by cases q) (by show ¬ (_ ∨ (arrV _ _ _).slots.size ≤ _); rw [arrV_size]; exact mx_in_spec hc.2) rfl rfl hd fun H1 e1 z1 o1 => ?_
        exact k H1 _ (hR.set hj z1 o1 (mx_rowJ e1)) (hS.put z1 o1 (Nat.le_add_right B _))
      · cases h
    · cases h
  case h_8 =>
    split at h
    · rename_i kq n a hj
      split at h
      · rename_i hc
        simp only [Bool.and_eq_true] at hc
        cases h
        have hk0 : kq = 2 := Nat.eq_of_beq_eq_true hc.1
        subst hk0
        simp only [List.map_cons, mx_v_ref, mx_v_int, hR.ref hr hj, List.length_set] at k ⊢
        refine W.zast hx hb (hP _ _ (mx_abs_get hj)) ((hK.2 2 _ rfl).1 n (fun j => .int (mx_g a j))) (fun q => by cases q) (by show ¬ (_ ∨ (arrV _ _ _).slots.size ≤ _); rw [arrV_size]; exact mx_in_spec hc.2) rfl rfl hd fun H1 e1 z1 o1 => ?_
        exact k H1 _ (hR.set hj z1 o1 (mx_rowI e1)) (hS.put z1 o1 (Nat.le_add_right B _))
      · split at h
        · rename_i hc
          simp only [Bool.and_eq_true] at hc
          cases h
          have hk0 : kq = 3 := Nat.eq_of_beq_eq_true hc.1
          subst hk0
          simp only [List.map_cons, mx_v_ref, mx_v_int, hR.ref hr hj, List.length_set] at k ⊢
          refine W.bast hx hb (hP _ _ (mx_abs_get hj)) ((hK.2 3 _ rfl).1 n (fun j => .int (mx_g a j))) (fun q => by cases q) (by show ¬ (_ ∨ (arrV _ _ _).slots.size ≤ _); rw [arrV_size]; exact mx_in_spec hc.2) rfl rfl hd fun H1 e1 z1 o1 => ?_
          exact k H1 _ (hR.set hj z1 o1 (mx_rowI e1)) (hS.put z1 o1 (Nat.le_add_right B _))
        · cases h
    · cases h
  case h_9 =>
    split at h
    · rename_i hj
      have hj := Nat.eq_of_beq_eq_true hj
      subst hj
      split at h
      · rename_i L
        cases h
        obtain ⟨b, xs, g1, g2, g3, g4, g5⟩ := hsc L rfl
        have kk := k H locs hR hS
        simp only [List.map_cons, mx_v_ref, mx_v_int, g1] at kk ⊢
        exact va_slen hx hb g2 g3 g4 hS hd kk
      · cases h
    · split at h
      · rename_i kq n a hj
        split at h
        · rename_i hc
          cases h
          have hk4 := mx_blt hc
          have kk := k H locs hR hS
          simp only [List.map_cons, mx_v_ref, mx_v_int, hR.ref hr hj] at kk ⊢
          obtain ⟨ty, hty⟩ : ∃ ty, (mx_tys cy)[kq]? = some (cy kq, ty) := by
            rcases (show kq = 0 ∨ kq = 1 ∨ kq = 2 ∨ kq = 3 by omega) with rfl | rfl | rfl | rfl <;> exact ⟨_, rfl⟩
          have ha := mx_abs_get (cy := cy) (r := r) (B := B) hj
          cases a with
          | inl a => exact va_alen hx hb hK hP _ kq ha hty rfl hd kk
          | inr a => exact va_alen hx hb hK hP _ kq ha hty rfl hd kk
        · cases h
      · cases h
  case h_10 t n st2 =>
    split at h
    · rename_i kq hkq
      split at h
      · rename_i hc
        simp only [Bool.and_eq_true, decide_eq_true_eq] at hc
        cases h
        obtain ⟨⟨⟨hc1, hc2⟩, hc3⟩, hc4⟩ := hc
        have hfz := mx_al_spec hkb hr hc4
        have hc2 := Nat.le_of_ble_eq_true hc2
        have hc3 := mx_blt hc3
        simp only [List.map_cons, mx_v_ref, mx_v_int, hr.1 _ hc3, List.length_append, List.length_singleton] at k hrc hrs ⊢
        have harr : (Cond.arrayClass (newarray.typeOf t)).before args s = true ∧ n.toNatClampNeg * componentBytes (newarray.typeOf t) ≤ 536870912 ∧ (∀ cA, s.vm.findClass ("[" ++ (newarray.typeOf t).toString) = some cA → cA = cy kq) ∧ ∀ cA, cA = cy kq → ∀ H' : Heap, H'[B + w.1.length]? = some (arrV cA n.toNatClampNeg (fun _ => defaultValue (newarray.typeOf t))) → va_at D mx_cl (B + w.1.length, mx_c cy r (mx_new kq n.toNatClampNeg)) H' := by
          cases t <;> cases hkq <;> refine ⟨?_, ?_, fun cA h => ?_, fun cA h H' hh => ?_⟩
          · exact mx_at_use mx_ar_boolean hE
          · show _ * 1 ≤ _; omega
          · exact Option.some.inj (h.symm.trans (hK.2 2 _ rfl).2)
          · subst h; exact hh
          · exact mx_at_use mx_ar_byte hE
          · show _ * 1 ≤ _; omega
          · exact Option.some.inj (h.symm.trans (hK.2 3 _ rfl).2)
          · subst h; exact hh
          · exact mx_at_use mx_ar_int hE
          · show _ * 4 ≤ _; omega
          · exact Option.some.inj (h.symm.trans (hK.2 0 _ rfl).2)
          · subst h; exact hh
          · exact mx_at_use mx_ar_long hE
          · show _ * 8 ≤ _; omega
          · exact Option.some.inj (h.symm.trans (hK.2 1 _ rfl).2)
          · subst h; exact hh
        obtain ⟨a1, a2, a3, a4⟩ := harr
        refine va_newaK hx hb a1 rfl hd rfl hc1 rfl a2 (by omega) (by omega) (hR.1 hfz) fun H1 cA e1 z1 o1 hAr hNm => ?_
        rw [show w.1.length - n0 + 1 = w.1.length + 1 - n0 by omega, show w.2 - z0 + n.toNatClampNeg = w.2 + n.toNatClampNeg - z0 by omega]
        refine k H1 locs (hR.push hc3 (by rw [z1, hR.1 hfz]) (fun q hq => o1 q (by rw [← hR.1 hfz]; exact hq)) (a4 cA (a3 cA hNm) H1 e1)) ⟨Nat.le_trans hS.1 (by rw [z1, ← hR.1 hfz]; omega), fun q h1 h2 => (o1 q (by rw [← hR.1 hfz]; exact Nat.lt_of_lt_of_le h1 hS.1)).trans (hS.2.1 q h1 h2), hS.2.2⟩
      · cases h
    · cases h
  case h_11 =>
    split at h
    · rename_i t ci kf zf hlf
      split at h
      · rename_i q hcl
        split at h
        · rename_i hc
          simp only [Bool.and_eq_true] at hc
          cases h
          have hfz := mx_al_spec hkb hr hc.2
          have hc := hc.1
          have ht : t = 9 := Nat.eq_of_beq_eq_true hc.1
          subst ht
          have hc3 := mx_blt hc.2
          have h9 := hlk _ (mx_lkl hlf)
          simp only [mx_lkok, hcl] at h9
          obtain ⟨hws, hty, hnm, hdc, i1, i2, hi1, hi2⟩ := mx_C_of hcl
          have hts : ∀ w ∈ u_ws q.1 q.2.1 q.2.2, w.before args s = true := fun w hw => hE w (hws w hw).1 (hws w hw).2 args
          have hKn := hK.1 ci _ hcl
          simp only [List.map_cons, mx_v_ref, hr.1 _ hc3, List.length_append, List.length_singleton] at k hrc hrs ⊢
          refine W.newcK hx hb hown (mx_at_use h9 hE) (mx_at_use hi1 hE) (mx_at_use hi2 hE) rfl hd (by omega) (by omega) hKn.2.1 (hR.1 hfz) fun H1 kC hkC e1 z1 o1 => ?_
          rw [show w.1.length - n0 + 1 = w.1.length + 1 - n0 by omega, show w.2 - z0 + q.2.2 = w.2 + q.2.2 - z0 by omega]
          refine k H1 locs (hR.push hc3 (by rw [z1, hR.1 hfz]) (fun x hx => o1 x (by rw [← hR.1 hfz]; exact hx)) ?_) ⟨Nat.le_trans hS.1 (by rw [z1, ← hR.1 hfz]; omega), fun x h1 h2 => (o1 x (by rw [← hR.1 hfz]; exact Nat.lt_of_lt_of_le h1 hS.1)).trans (hS.2.1 x h1 h2), hS.2.2⟩
          refine ⟨_, hcl, (u_born (mx_ty ci) hts (fun w h => h) hKn hkC e1 hty).to (fun j hj => ?_)⟩
          have hdv : ∀ ty : FieldType, mx_v r (defaultValue ty) = defaultValue ty := fun ty => by cases ty <;> rfl
          simp [vp_V, mx_defs, List.getD, hj, hdv]
        · cases h
      · cases h
    · cases h
  case h_12 =>
    split at h
    · rename_i t ci kf zf hlf
      split at h
      · rename_i hc
        cases h
        have ht : t = 10 := Nat.eq_of_beq_eq_true hc
        subst ht
        have h9 := hlk _ (mx_lkl hlf)
        simp only [mx_lkok] at h9
        exact lv_ldc hx hb hown (mx_at_use h9 hE) hd (k H locs hR hS)
      · cases h
    · cases h
  case h_13 =>
    split at h
    · rename_i t ci kf zf hlf
      split at h
      · rename_i hc
        cases h
        have ht : t = 11 := Nat.eq_of_beq_eq_true hc
        subst ht
        have h9 := hlk _ (mx_lkl hlf)
        simp only [mx_lkok] at h9
        exact lv_ldc2 hx hb hown (mx_at_use h9 hE) hd (k H locs hR hS)
      · cases h
    · cases h
  case h_14 =>
    split at h
    · rename_i t ci kf zf hlf
      split at h
      · rename_i hc
        simp only [Bool.and_eq_true] at hc
        cases h
        have ht : t = 8 := Nat.eq_of_beq_eq_true hc.1.1
        subst ht
        have h9 := hlk _ (mx_lkl hlf)
        simp only [mx_lkok] at h9
        obtain ⟨a, ha⟩ := hr.ref (Nat.le_of_ble_eq_true hc.1.2)
        have hsum := Nat.le_of_ble_eq_true hc.2
        rw [← mx_cats hr] at hsum
        simp only [List.map_cons, mx_v_ref, ha]
        refine W.objInit hx hb hown (mx_at_use h9 hE) (mx_at_use mx_oi.1 hE) (mx_at_use mx_oi.2 hE) rfl hls rfl hd hfr ?_ (k H locs hR hS)
        show 2 * 0 + _ + 12 ≤ R.locals
        omega
      · cases h
    · cases h
  case h_15 => cases h
end MX3
end
section
/-! ### calls; a method's run is its contract -/
/-- a method: its name; its bytes; (its locals, what it answers, how many it is given, the number of its kind, how it is called: 0 by its object, 1 by its class, 2 as a maker); places of its words; its instructions; its links; whether it is a maker -/
abbrev mM : Type := MethodName × ByteArray × (Nat × Option FieldType × Nat × Nat × Nat) × (Nat × Nat × Nat × Nat) × List (Nat × Instr) × List (Nat × mL) × Option Nat
def mx_isO (w : mW) (j md ci : Nat) : Bool := match w.1[j]? with
  | some (.inl (c, _)) => Nat.beq md 2 || Nat.beq c ci
  | _ => false
def mx_ivk (tab : List mM) (call : Nat → List Value → mW → Option (Option Value × mW)) (lk : List (Nat × mL)) (i : Instr) (st : List Value) (w : mW) : Option (List Value × mW) :=
  match (match i with | .invokevirtual ix => some (ix, 0) | .invokestatic ix => some (ix, 1) | .invokespecial ix => some (ix, 2) | _ => none) with
  | none => none
  | some (ix, md) => match lk.lookup ix with
    | none => none
    | some (t, a, n, _) => match tab[a]? with
      | none => none
      | some M => if (Nat.beq t (2 * md + 2) || Nat.beq t (2 * md + 3)) && Nat.beq M.2.2.1.2.2.2.2 md && Nat.beq M.2.2.1.2.2.1 n && Nat.ble n st.length then
          if Nat.beq md 1 then
            (if Nat.ble (((st.drop n).map fun v => v.category).sum) 8 then match call a (st.take n).reverse w with
              | some (v, w') => if Nat.ble w.1.length w'.1.length && Nat.ble w.2 w'.2 then some (v.toList ++ st.drop n, w') else none
              | none => none else none)
          else match st.drop n with
            | .ref j :: rest => if Nat.ble ((rest.map fun v => v.category).sum) 8 && mx_isO w j md M.2.2.1.2.2.2.1 then match call a (.ref j :: (st.take n).reverse) w with
                | some (v, w') => if Nat.ble w.1.length w'.1.length && Nat.ble w.2 w'.2 then some (v.toList ++ rest, w') else none
                | none => none else none
            | _ => none
        else none
def mx_isT (i : Instr) : Bool := match i with
  | .tableswitch _ _ _ _ => true
  | _ => false
def mx_rowok (bytes : ByteArray) (x : Nat × Instr) : Bool := match decode bytes x.1 with
  | .ok (i, n) => decide (i = x.2) && (Nat.beq n (mx_len x.2) || mx_isT x.2)
  | _ => false
def mx_mok (nms : Nat → Option MethodName) (M : mM) : Bool :=
  M.2.2.2.2.1.all (mx_rowok M.2.1) && M.2.2.2.2.2.1.all (mx_lkok nms M.1.cls) && mx_at M.2.2.2.1.1 (.code M.1 M.2.1 M.2.2.1.1 M.2.2.1.2.1) && mx_at M.2.2.2.1.2.2.2 (.initialized M.1.cls) &&
  (match M.2.2.1.2.2.2.2 with
    | 1 => mx_at M.2.2.2.1.2.1 (.static M.1)
    | 2 => mx_at M.2.2.2.1.2.1 (.instanceMethod M.1) && decide (M.1.name = "<init>") && decide (M.2.2.1.2.1 = none)
    | _ => mx_at M.2.2.2.1.2.1 (.instanceMethod M.1) && mx_at M.2.2.2.1.2.2.1 (.selects M.1.cls M.1 M.1) && (match mx_cl[M.2.2.1.2.2.2.1]? with | some q => decide (q.1 = M.1.cls) | none => false)) &&
  decide (M.1.cls ≠ "java/lang/invoke/MethodHandle" ∧ M.1.cls ≠ "java/lang/invoke/VarHandle" ∧ (parseMethodDescriptor M.1.desc).map (fun d => d.parameters.length) = some M.2.2.1.2.2.1) && plainName M.1.cls && Nat.ble M.2.2.1.1 21 &&
  (match M.2.2.2.2.2.2 with
    | some ci => decide (M.1.name = "<init>") && (match mx_cl[ci]? with | some q => decide (M.1.cls = q.1) | none => false)
    | none => true)
def mx_room (d : Nat) (w w' : mW) : Room := { frames := d, cells := w'.1.length - w.1.length, slots := w'.2 - w.2, locals := 40 * d }
def mx_Pc (D : va_G) (cy : Nat → ClassId) (r : Nat → Value) (B : Nat) (a : List Value) (w : mW) : Array Value → State → Prop := fun av U => av = (a.map (mx_v r)).toArray ∧ mx_Env U ∧ va_K D mx_cl (mx_tys cy) U ∧ mx_R D cy r B w U.heap
def mx_Qc (D : va_G) (cy : Nat → ClassId) (r : Nat → Value) (B : Nat) (v : Option Value) (w' : mW) : Array Value → State → Outcome → State → Prop := fun _ st o t => o = .returned (v.map (mx_v r)) ∧ mx_R D cy r B w' t.heap ∧ va_F (fun q => B ≤ q) st t
def mx_Met (l : Launch) (D : va_G) (cy : Nat → ClassId) (r : Nat → Value) (B : Nat) (M : mM) (d : Nat) (a : List Value) (w : mW) (v : Option Value) (w' : mW) : Prop :=
  Met l M.1 [Cond.code M.1 M.2.1 M.2.2.1.1 M.2.2.1.2.1] (mx_room d w w') (mx_Pc D cy r B a w) (mx_Qc D cy r B v w') (w'.1.length - w.1.length) (w'.2 - w.2) (fun q => B ≤ q)
theorem mx_blind {D : va_G} {cy : Nat → ClassId} {r : Nat → Value} {B : Nat} {a : List Value} {w : mW} : FrameBlind (mx_Pc D cy r B a w) := by
  intro av U g mk h
  exact ⟨h.1, mx_Env.same (s := U) (U := U.calling g mk av) rfl h.2.1, va_K.moved (u := U) (U := U.calling g mk av) (Vm.Alike.refl U.vm) h.2.2.1, h.2.2.2⟩
section MX4
variable {p : Program} {l : Launch} {e : Env} {R : Room} {s : State} {m : MethodId} {args : Array Value} {below : List Frame} {meth : Method} {c : Code} {H : Heap} {locs : List Loc} {cells slots : Nat} {Q : State → Prop}
variable {cc : ByteArray} {pc nL : Nat} {ls : Array Slot} {r : Nat → Value} {B : Nat} {D : va_G} {cy : Nat → ClassId} {H0 : Heap}
theorem mx_run {mc ms : Nat} {a : Array Value} {st0 rest : List Value} {v : Option Value} {w' : mW} (hr : va_Run p l e R s m args below meth c H locs cells slots mc ms (F0 m pc ls st0) rest (mx_Qc D cy r B v w' a) (fun q => B ≤ q)) (hS : va_S (fun q => B ≤ q) H0 H locs)
    (k : ∀ (H' : Heap) (locs' : List Loc), mx_R D cy r B w' H' → va_S (fun q => B ≤ q) H0 H' locs' → W p l e R s m args below meth c H' locs' (cells + mc) (slots + ms) Q (F0 m (pc + 3) ls ((v.map (mx_v r)).toList ++ rest))) : W p l e R s m args below meth c H locs cells slots Q (F0 m pc ls st0) := by
  intro T hT X
  obtain ⟨v', st₀, t, T', L, h0, X', hL, e1, e2, ⟨hv, hR', hz, hk⟩, st⟩ := hr T hT X
  cases hv
  rw [h0] at hz hk
  obtain ⟨t2, a1, b1⟩ := k T'.heap (locs ++ L) (by rw [e1]; exact hR')
    ⟨Nat.le_trans hS.1 (by rw [e1]; exact hz), fun q h1 h2 => by rw [e1, hk q (Nat.lt_of_lt_of_le h1 hS.1) h2]; exact hS.2.1 q h1 h2, fun q hq => by
      rcases List.mem_append.mp hq with h | h
      · exact hS.2.2 q h
      · exact hL q h⟩ T' rfl X'
  exact ⟨t2, st t2 a1, b1⟩
theorem mx_Mok {nms : Nat → Option MethodName} {M : mM} (h : mx_mok nms M = true) : (∀ x ∈ M.2.2.2.2.1, mx_rowok M.2.1 x = true) ∧ (∀ x ∈ M.2.2.2.2.2.1, mx_lkok nms M.1.cls x = true) ∧ mx_at M.2.2.2.1.1 (.code M.1 M.2.1 M.2.2.1.1 M.2.2.1.2.1) = true ∧ mx_at M.2.2.2.1.2.2.2 (.initialized M.1.cls) = true ∧
    (M.2.2.1.2.2.2.2 = 1 → mx_at M.2.2.2.1.2.1 (.static M.1) = true) ∧ (M.2.2.1.2.2.2.2 = 2 → mx_at M.2.2.2.1.2.1 (.instanceMethod M.1) = true ∧ M.1.name = "<init>" ∧ M.2.2.1.2.1 = none) ∧
    (M.2.2.1.2.2.2.2 = 0 → mx_at M.2.2.2.1.2.1 (.instanceMethod M.1) = true ∧ mx_at M.2.2.2.1.2.2.1 (.selects M.1.cls M.1 M.1) = true ∧ ∃ q, mx_cl[M.2.2.1.2.2.2.1]? = some q ∧ q.1 = M.1.cls) ∧
    (M.1.cls ≠ "java/lang/invoke/MethodHandle" ∧ M.1.cls ≠ "java/lang/invoke/VarHandle" ∧ (parseMethodDescriptor M.1.desc).map (fun d => d.parameters.length) = some M.2.2.1.2.2.1) ∧ plainName M.1.cls = true ∧ M.2.2.1.1 ≤ 21 ∧
    (∀ ci, M.2.2.2.2.2.2 = some ci → M.1.name = "<init>" ∧ ∃ q, mx_cl[ci]? = some q ∧ M.1.cls = q.1) := by
  simp only [mx_mok, Bool.and_eq_true, List.all_eq_true, decide_eq_true_eq] at h
  obtain ⟨⟨⟨⟨⟨⟨⟨⟨h1, h2⟩, h3⟩, h4⟩, h5⟩, h6⟩, h7⟩, h8⟩, h9⟩ := h
  refine ⟨h1, h2, h3, h4, fun h => ?_, fun h => ?_, fun h => ?_, h6, h7, Nat.le_of_ble_eq_true h8, fun ci h => ?_⟩
  · rw [h] at h5; exact h5
  · rw [h] at h5
    simp only [Bool.and_eq_true, decide_eq_true_eq] at h5
    exact ⟨h5.1.1, h5.1.2, h5.2⟩
  · rw [h] at h5
    simp only [Bool.and_eq_true] at h5
    refine ⟨h5.1.1, h5.1.2, ?_⟩
    have h10 := h5.2
    split at h10
    · rename_i q hq
      exact ⟨q, hq, by simpa using h10⟩
    · cases h10
  · rw [h] at h9
    simp only [Bool.and_eq_true, decide_eq_true_eq] at h9
    refine ⟨h9.1, ?_⟩
    have h10 := h9.2
    split at h10
    · rename_i q hq
      exact ⟨q, hq, by simpa using h10⟩
    · cases h10
set_option maxHeartbeats 4000000 in
theorem mx_ivk_W (hx : p.tables.exec = Jvm.exec) (hb : c.code = cc) (hml : c.maxLocals = nL) (hls : ls.size = nL) {own : String} {tab : List mM} {lk : List (Nat × mL)} {n0 z0 d : Nat} (hE : mx_Env s) (hown : s.vm.findClass own = some m.cls) (hK : va_K D mx_cl (mx_tys cy) s) (hr : mx_r r B)
    (hlk : ∀ x ∈ lk, mx_lkok (fun a => tab[a]?.map (fun M => M.1)) own x = true) (htab : ∀ M ∈ tab, mx_mok (fun a => tab[a]?.map (fun M => M.1)) M = true) (hfr : d + 1 ≤ R.frames) (hlo : 40 * (d + 1) ≤ R.locals) {call : Nat → List Value → mW → Option (Option Value × mW)}
    (hcall : ∀ a As w v w', call a As w = some (v, w') → ∀ M, tab[a]? = some M → mx_Met l D cy r B M d As w v w')
    {i : Instr} {st st' : List Value} {w w' : mW} (hR : mx_R D cy r B w H) (hS : va_S (fun q => B ≤ q) H0 H locs) (hn0 : n0 ≤ w.1.length) (hz0 : z0 ≤ w.2) (hrc : w'.1.length - n0 ≤ R.cells) (hrs : w'.2 - z0 ≤ R.slots)
    (hd : decode cc pc = .ok (i, mx_len i)) (h : mx_ivk tab call lk i st w = some (st', w'))
    (k : ∀ (H' : Heap) (locs' : List Loc), mx_R D cy r B w' H' → va_S (fun q => B ≤ q) H0 H' locs' → W p l e R s m args below meth c H' locs' (w'.1.length - n0) (w'.2 - z0) Q (F0 m (pc + 3) ls (st'.map (mx_v r)))) :
    W p l e R s m args below meth c H locs (w.1.length - n0) (w.2 - z0) Q (F0 m pc ls (st.map (mx_v r))) := by
  unfold mx_ivk at h
  split at h
  · cases h
  · rename_i ix md hmd
    split at h
    · cases h
    · rename_i t a n zz hlf
      split at h
      · cases h
      · rename_i M hM
        split at h
        · rename_i hc
          simp only [Bool.and_eq_true, Bool.or_eq_true] at hc
          obtain ⟨⟨⟨hc1, hc2⟩, hc3⟩, hc4⟩ := hc
          have hmd2 : M.2.2.1.2.2.2.2 = md := Nat.eq_of_beq_eq_true hc2
          have hnn : M.2.2.1.2.2.1 = n := Nat.eq_of_beq_eq_true hc3
          have hnl := Nat.le_of_ble_eq_true hc4
          obtain ⟨m1, m2, m3, m4, m5, m6, m7, m8, m9, m10, m11⟩ := mx_Mok (htab M (List.mem_of_getElem? hM))
          have h9 := hlk _ (mx_lkl hlf)
          have hlen : ∀ sig, parseMethodDescriptor M.1.desc = some sig → n = sig.parameters.length := fun sig hs => by
            have := m8.2.2
            rw [hs] at this
            rw [← hnn]
            exact (Option.some.inj this).symm
          have hws : ∀ w ∈ [Cond.code M.1 M.2.1 M.2.2.1.1 M.2.2.1.2.1], ∀ (a' : Array Value) (U : State), s.WarmedH U.vm → w.before a' U = true := by
            intro w hw a' U hW
            rw [List.mem_singleton.mp hw]
            exact mx_at_use m3 (mx_Env.warm hW hE)
          have hlink : (t = 2 * md + 2 ∧ (Cond.methodLink own ix M.1).before args s = true) ∨ (t = 2 * md + 3 ∧ (Cond.methodLinkNest own ix M.1 "BoundTables").before args s = true) := by
            have hmd3 : md = 0 ∨ md = 1 ∨ md = 2 := by
              cases i <;> first | (cases hmd; done) | (cases hmd; simp)
            rcases hc1 with hc1 | hc1 <;> have ht := Nat.eq_of_beq_eq_true hc1
            · left
              refine ⟨ht, ?_⟩
              rcases hmd3 with rfl | rfl | rfl <;> subst ht <;> simp only [mx_lkok, hM, Option.map_some] at h9 <;> exact mx_at_use h9 hE
            · right
              refine ⟨ht, ?_⟩
              rcases hmd3 with rfl | rfl | rfl <;> subst ht <;> simp only [mx_lkok, hM, Option.map_some] at h9 <;> exact mx_at_use h9 hE
          have CF : CallFix p m c cc nL s args [] own := ⟨hx, hb, hml, hown, fun w hw => by cases hw⟩
          have hstk : st = (st.take n).reverse.reverse ++ st.drop n := by simp
          have hAl : (((st.take n).reverse).map (mx_v r)).length = n := by simp [Nat.min_eq_left hnl]
          have rms : ∀ w2 : mW, (mx_room d w w2).frames + 1 ≤ R.frames ∧ 8 + (M.2.2.1.1 + 11) + (mx_room d w w2).locals ≤ R.locals := fun w2 => ⟨hfr, by show 8 + (M.2.2.1.1 + 11) + 40 * d ≤ _; omega⟩
          split at h
          · rename_i hmd1
            have hmd1 : md = 1 := Nat.eq_of_beq_eq_true hmd1
            subst hmd1
            have hi : i = .invokestatic ix := by cases i <;> first | (cases hmd; done) | (cases hmd; rfl)
            subst hi
            split at h
            · rename_i hsum
              split at h
              · rename_i v w2 hcl
                split at h
                · rename_i hmono
                  simp only [Bool.and_eq_true] at hmono
                  cases h
                  have g1 := Nat.le_of_ble_eq_true hmono.1
                  have g2 := Nat.le_of_ble_eq_true hmono.2
                  have hMet := hcall _ _ _ _ _ hcl M hM
                  have hsum := Nat.le_of_ble_eq_true hsum
                  rw [← mx_cats hr] at hsum
                  have hp : PreS s H (mx_Pc D cy r B (st.take n).reverse w) (((st.take n).reverse).map (mx_v r)) := ⟨mx_blind, fun U hU hW => ⟨rfl, mx_Env.warm hW hE, va_K.moved hW.alike hK, by rw [hU]; exact hR⟩⟩
                  have hstack : (F0 m pc ls (st.map (mx_v r))).stack = (((st.take n).reverse).map (mx_v r)).reverse ++ (st.drop n).map (mx_v r) := by
                    show st.map (mx_v r) = _
                    rw [← List.map_reverse, List.reverse_reverse, ← List.map_append, List.take_append_drop]
                  refine mx_run (D := D) (cy := cy) (r := r) ?_ hS (fun H' locs' hR' hS' => ?_) (mc := w'.1.length - w.1.length) (ms := w'.2 - w.2) (v := v) (w' := w') (rest := (st.drop n).map (mx_v r)) (a := (((st.take n).reverse).map (mx_v r)).toArray)
                  · rcases hlink with ⟨-, hl⟩ | ⟨-, hl⟩
                    · exact va_runS CF hMet ⟨⟨rfl, rfl, (rms w').1, (rms w').2, hws, List.mem_singleton.mpr rfl, mx_at_use m3 hE, mx_at_use m4 hE, ⟨m8.1, m8.2.1⟩, hlen, hl⟩, mx_at_use (m5 hmd2) hE⟩ hp rfl hAl hls hstack (lv_room hsum) hd ⟨by omega, by omega⟩
                    · exact va_runSN CF hMet ⟨⟨⟨rfl, rfl, (rms w').1, (rms w').2, hws, List.mem_singleton.mpr rfl⟩, mx_at_use m3 hE, mx_at_use m4 hE, ⟨m8.1, m8.2.1⟩, hlen, hl⟩, mx_at_use (m5 hmd2) hE, trivial⟩ hp rfl hAl hls hstack (lv_room hsum) hd ⟨by omega, by omega⟩
                  · have kk := k H' locs' hR' hS'
                    rw [show w.1.length - n0 + (w'.1.length - w.1.length) = w'.1.length - n0 by omega, show w.2 - z0 + (w'.2 - w.2) = w'.2 - z0 by omega]
                    have e1 : (v.map (mx_v r)).toList ++ (st.drop n).map (mx_v r) = (v.toList ++ st.drop n).map (mx_v r) := by cases v <;> simp
                    rw [e1]
                    exact kk
                · cases h
              · cases h
            · cases h
          · rename_i hmd1
            split at h
            · rename_i j rest hdrop
              split at h
              · rename_i hcc
                simp only [Bool.and_eq_true] at hcc
                split at h
                · rename_i v w2 hcl
                  split at h
                  · rename_i hmono
                    simp only [Bool.and_eq_true] at hmono
                    cases h
                    have g1 := Nat.le_of_ble_eq_true hmono.1
                    have g2 := Nat.le_of_ble_eq_true hmono.2
                    have hMet := hcall _ _ _ _ _ hcl M hM
                    have hsum := Nat.le_of_ble_eq_true hcc.1
                    rw [← mx_cats hr] at hsum
                    have hobj := hcc.2
                    unfold mx_isO at hobj
                    split at hobj
                    · rename_i ci fs hj
                      have hrj := hR.ref hr hj
                      have hargs : Value.ref (B + j) :: ((st.take n).reverse).map (mx_v r) = (Value.ref j :: (st.take n).reverse).map (mx_v r) := by simp [mx_v_ref, hrj]
                      have hstack : (F0 m pc ls (st.map (mx_v r))).stack = (((st.take n).reverse).map (mx_v r)).reverse ++ .ref (B + j) :: rest.map (mx_v r) := by
                        show st.map (mx_v r) = _
                        rw [← List.map_reverse, List.reverse_reverse, ← hrj, ← mx_v_ref r j, ← List.map_cons, ← hdrop, ← List.map_append, List.take_append_drop]
                      have hpS : PreS s H (mx_Pc D cy r B (.ref j :: (st.take n).reverse) w) (.ref (B + j) :: ((st.take n).reverse).map (mx_v r)) := ⟨mx_blind, fun U hU hW => ⟨by rw [hargs], mx_Env.warm hW hE, va_K.moved hW.alike hK, by rw [hU]; exact hR⟩⟩
                      have hmd3 : md = 0 ∨ md = 2 := by
                        cases i <;> first | (cases hmd; done) | (cases hmd; simp at hmd1 ⊢)
                      refine mx_run (D := D) (cy := cy) (r := r) ?_ hS (fun H' locs' hR' hS' => ?_) (mc := w'.1.length - w.1.length) (ms := w'.2 - w.2) (v := v) (w' := w') (rest := rest.map (mx_v r)) (a := (Value.ref (B + j) :: ((st.take n).reverse).map (mx_v r)).toArray)
                      · rcases hmd3 with rfl | rfl
                        · have hi : i = .invokevirtual ix := by cases i <;> first | (cases hmd; done) | (cases hmd; rfl)
                          subst hi
                          obtain ⟨n1, n2, q, n3, n4⟩ := m7 hmd2
                          have hci : ci = M.2.2.1.2.2.2.1 := by simpa using hobj
                          have hp : PreV s H M.1.cls (B + j) (mx_Pc D cy r B (.ref j :: (st.take n).reverse) w) (((st.take n).reverse).map (mx_v r)) := ⟨hpS.1, by rw [← n4]; exact va_recv hK hR.2.2 (by rw [hci]; exact n3) (mx_abs_get hj), hpS.2⟩
                          rcases hlink with ⟨-, hl⟩ | ⟨-, hl⟩
                          · exact va_runV CF hMet ⟨⟨rfl, rfl, (rms w').1, (rms w').2, hws, List.mem_singleton.mpr rfl, mx_at_use m3 hE, mx_at_use m4 hE, ⟨m8.1, m8.2.1⟩, hlen, hl⟩, mx_at_use n1 hE, mx_at_use n2 hE⟩ hp rfl hAl hls hstack (lv_room hsum) hd ⟨by omega, by omega⟩
                          · exact va_runVN CF hMet ⟨⟨⟨rfl, rfl, (rms w').1, (rms w').2, hws, List.mem_singleton.mpr rfl⟩, mx_at_use m3 hE, mx_at_use m4 hE, ⟨m8.1, m8.2.1⟩, hlen, hl⟩, mx_at_use n1 hE, mx_at_use n2 hE⟩ hp rfl hAl hls hstack (lv_room hsum) hd ⟨by omega, by omega⟩
                        · have hi : i = .invokespecial ix := by cases i <;> first | (cases hmd; done) | (cases hmd; rfl)
                          subst hi
                          obtain ⟨n1, n2, n3⟩ := m6 hmd2
                          have hMet' := hMet
                          unfold mx_Met at hMet'
                          rw [n3] at hMet' hws m3
                          rcases hlink with ⟨-, hl⟩ | ⟨-, hl⟩
                          · exact va_runI CF hMet' ⟨⟨rfl, rfl, (rms w').1, (rms w').2, hws, List.mem_singleton.mpr rfl, mx_at_use m3 hE, mx_at_use m4 hE, ⟨m8.1, m8.2.1⟩, hlen, hl⟩, n2, mx_at_use n1 hE⟩ hpS rfl hAl hls hstack (lv_room hsum) hd ⟨by omega, by omega⟩
                          · exact va_runIN CF hMet' ⟨⟨⟨rfl, rfl, (rms w').1, (rms w').2, hws, List.mem_singleton.mpr rfl⟩, mx_at_use m3 hE, mx_at_use m4 hE, ⟨m8.1, m8.2.1⟩, hlen, hl⟩, n2, mx_at_use n1 hE⟩ hpS rfl hAl hls hstack (lv_room hsum) hd ⟨by omega, by omega⟩
                      · have kk := k H' locs' hR' hS'
                        rw [show w.1.length - n0 + (w'.1.length - w.1.length) = w'.1.length - n0 by omega, show w.2 - z0 + (w'.2 - w.2) = w'.2 - z0 by omega]
                        have e1 : (v.map (mx_v r)).toList ++ rest.map (mx_v r) = (v.toList ++ rest).map (mx_v r) := by cases v <;> simp
                        rw [e1]
                        exact kk
                    · cases hobj
                  · cases h
                · cases h
              · cases h
            · cases h
        · cases h
end MX4
end
section
/-! ### runs -/
def mx_step (kb : mK) (tab : List mM) (call : Nat → List Value → mW → Option (Option Value × mW)) (sc : Option Nat) (M : mM) (σ : mS) : Option mS := match M.2.2.2.2.1.lookup σ.1 with
  | none => none
  | some i => match mx_pure i σ.2.2.1 with
    | some st' => some (σ.1 + mx_len i, σ.2.1, st', σ.2.2.2)
    | none => match mx_loc M.2.2.1.1 i σ.2.1 σ.2.2.1 with
      | some (lv', st') => some (σ.1 + mx_len i, lv', st', σ.2.2.2)
      | none => match mx_br kb σ.1 i σ.2.2.1 with
        | some (pc', st') => some (pc', σ.2.1, st', σ.2.2.2)
        | none => match mx_mem kb sc M.2.2.2.2.2.2 M.2.2.2.2.2.1 i σ.2.2.1 σ.2.2.2 with
          | some (st', w') => some (σ.1 + mx_len i, σ.2.1, st', w')
          | none => match mx_ivk tab call M.2.2.2.2.2.1 i σ.2.2.1 σ.2.2.2 with
            | some (st', w') => some (σ.1 + 3, σ.2.1, st', w')
            | none => none
def mx_stp (kb : mK) (tab : List mM) (call : Nat → List Value → mW → Option (Option Value × mW)) (sc : Option Nat) (jmp : mS → Option mS) (M : mM) (σ : mS) : Option mS := match jmp σ with
  | some σ' => some σ'
  | none => mx_step kb tab call sc M σ
def mx_runN (kb : mK) (tab : List mM) (call : Nat → List Value → mW → Option (Option Value × mW)) (sc : Option Nat) (jmp : mS → Option mS) (M : mM) : Nat → mS → Option mS
  | 0, σ => some σ
  | n + 1, σ => match mx_stp kb tab call sc jmp M σ with
    | some σ' => mx_runN kb tab call sc jmp M n σ'
    | none => none
def mx_ret (M : mM) (σ : mS) : Option (Option Value × mW) := match M.2.2.2.2.1.lookup σ.1, σ.2.2.1 with
  | some .ireturn, [.int v] => match M.2.2.1.2.1 with
    | some ty => if narrow ty (.int v) = .int v then some (some (.int v), σ.2.2.2) else none
    | none => none
  | some .lreturn, [.long v] => if M.2.2.1.2.1 = some .long then some (some (.long v), σ.2.2.2) else none
  | some .return_, [] => if M.2.2.1.2.1 = none then some (none, σ.2.2.2) else none
  | _, _ => none
def mx_loop (kb : mK) (tab : List mM) (call : Nat → List Value → mW → Option (Option Value × mW)) (jmp : mS → Option mS) (M : mM) : Nat → mS → Option (Option Value × mW)
  | 0, _ => none
  | n + 1, σ => match mx_ret M σ with
    | some x => some x
    | none => match mx_stp kb tab call none jmp M σ with
      | some σ' => mx_loop kb tab call jmp M n σ'
      | none => none
def mx_call (kb : mK) (tab : List mM) (ovr : Nat → List Value → mW → Option (Option Value × mW)) (jmp : Nat → mS → Option mS) : Nat → Nat → List Value → mW → Option (Option Value × mW)
  | 0, _, _, _ => none
  | d + 1, y, a, w => match ovr y a w with
    | some x => some x
    | none => match tab[y]? with
      | none => none
      | some M => if Nat.ble ((a.map fun v => v.category).sum) M.2.2.1.1 then mx_loop kb tab (mx_call kb tab ovr jmp d) (jmp y) M 1000000 (0, lv_args 0 a, [], w) else none
section MX5
variable {p : Program} {l : Launch} {e : Env} {R : Room} {s : State} {m : MethodId} {args : Array Value} {below : List Frame} {meth : Method} {c : Code}
/-- where a method runs -/
def mx_X (kb : mK) (p : Program) (R : Room) (s : State) (m : MethodId) (meth : Method) (c : Code) (D : va_G) (cy : Nat → ClassId) (r : Nat → Value) (B : Nat) (M : mM) (sc : Option Nat) (H0 : Heap) (d : Nat) : Prop :=
  p.tables.exec = Jvm.exec ∧ c.code = M.2.1 ∧ c.maxLocals = M.2.2.1.1 ∧ s.vm.findClass M.1.cls = some m.cls ∧ mx_Env s ∧ va_K D mx_cl (mx_tys cy) s ∧ mx_r r B ∧ mx_sc sc r B s H0 ∧ meth.name = M.1.name ∧ d + 1 ≤ R.frames ∧ 40 * (d + 1) ≤ R.locals ∧ mx_kb kb r
def mx_St (p : Program) (l : Launch) (e : Env) (R : Room) (s : State) (m : MethodId) (args : Array Value) (below : List Frame) (meth : Method) (c : Code) (D : va_G) (cy : Nat → ClassId) (r : Nat → Value) (B : Nat) (H0 : Heap) (nL : Nat) (σ σ' : mS) : Prop :=
  ∀ (Q : State → Prop) (n0 z0 : Nat) (H : Heap) (ls : Array Slot) (locs : List Loc), lv_has ls nL (mx_lv r σ.2.1) → mx_R D cy r B σ.2.2.2 H → va_S (fun q => B ≤ q) H0 H locs → n0 ≤ σ.2.2.2.1.length → z0 ≤ σ.2.2.2.2 → σ'.2.2.2.1.length - n0 ≤ R.cells → σ'.2.2.2.2 - z0 ≤ R.slots →
    (∀ (ls' : Array Slot) (H' : Heap) (locs' : List Loc), lv_has ls' nL (mx_lv r σ'.2.1) → mx_R D cy r B σ'.2.2.2 H' → va_S (fun q => B ≤ q) H0 H' locs' → W p l e R s m args below meth c H' locs' (σ'.2.2.2.1.length - n0) (σ'.2.2.2.2 - z0) Q (F0 m σ'.1 ls' (σ'.2.2.1.map (mx_v r)))) →
    W p l e R s m args below meth c H locs (σ.2.2.2.1.length - n0) (σ.2.2.2.2 - z0) Q (F0 m σ.1 ls (σ.2.2.1.map (mx_v r)))
def mx_le (σ σ' : mS) : Prop := σ.2.2.2.1.length ≤ σ'.2.2.2.1.length ∧ σ.2.2.2.2 ≤ σ'.2.2.2.2
variable {r : Nat → Value} {B : Nat} {D : va_G} {cy : Nat → ClassId} {H0 : Heap}
theorem mx_ivk_mono {tab : List mM} {call : Nat → List Value → mW → Option (Option Value × mW)} {lk : List (Nat × mL)} {i : Instr} {st st' : List Value} {w w' : mW} (h : mx_ivk tab call lk i st w = some (st', w')) : w.1.length ≤ w'.1.length ∧ w.2 ≤ w'.2 := by
  unfold mx_ivk at h
  repeat' split at h
  all_goals first | (cases h; done) | skip
  all_goals
    cases h
    rename_i hm
    simp only [Bool.and_eq_true] at hm
    exact ⟨Nat.le_of_ble_eq_true hm.1, Nat.le_of_ble_eq_true hm.2⟩
theorem mx_step_mono {kb : mK} {tab : List mM} {call : Nat → List Value → mW → Option (Option Value × mW)} {sc : Option Nat} {M : mM} {σ σ' : mS} (h : mx_step kb tab call sc M σ = some σ') : mx_le σ σ' := by
  unfold mx_step at h
  split at h
  · cases h
  · split at h
    · cases h; exact ⟨Nat.le_refl _, Nat.le_refl _⟩
    · split at h
      · cases h; exact ⟨Nat.le_refl _, Nat.le_refl _⟩
      · split at h
        · cases h; exact ⟨Nat.le_refl _, Nat.le_refl _⟩
        · split at h
          · rename_i hm
            cases h; exact mx_mem_mono hm
          · split at h
            · rename_i hm
              cases h; exact mx_ivk_mono hm
            · cases h
theorem mx_rowok_spec {bytes : ByteArray} {pc : Nat} {i : Instr} (h : mx_rowok bytes (pc, i) = true) : ∃ n, decode bytes pc = .ok (i, n) ∧ (n = mx_len i ∨ mx_isT i = true) := by
  unfold mx_rowok at h
  split at h
  · rename_i i' n hd
    simp only [Bool.and_eq_true, Bool.or_eq_true, decide_eq_true_eq] at h
    obtain ⟨h1, h2⟩ := h
    dsimp only at hd h1 h2
    subst h1
    exact ⟨n, hd, h2.imp Nat.eq_of_beq_eq_true id⟩
  · cases h
theorem mx_lki {rows : List (Nat × Instr)} {i : Nat} {v : Instr} (h : rows.lookup i = some v) : (i, v) ∈ rows := by
  induction rows with
  | nil => simp at h
  | cons q t ih =>
    obtain ⟨j, u⟩ := q
    by_cases hj : i = j
    · subst hj
      simp [List.lookup] at h
      simp [h]
    · have : (i == j) = false := by simpa using hj
      simp [List.lookup, this] at h
      exact List.mem_cons_of_mem _ (ih h)
/-- what a step asks of a method's record -/
def mx_wok (nms : Nat → Option MethodName) (M : mM) : Prop := (∀ x ∈ M.2.2.2.2.1, mx_rowok M.2.1 x = true) ∧ (∀ x ∈ M.2.2.2.2.2.1, mx_lkok nms M.1.cls x = true) ∧ ∀ ci, M.2.2.2.2.2.2 = some ci → M.1.name = "<init>" ∧ ∃ q, mx_cl[ci]? = some q ∧ M.1.cls = q.1
theorem mx_wok_of {nms : Nat → Option MethodName} {M : mM} (h : mx_mok nms M = true) : mx_wok nms M := by
  obtain ⟨m1, m2, m3, m4, m5, m6, m7, m8, m9, m10, m11⟩ := mx_Mok h
  exact ⟨m1, m2, m11⟩
set_option maxHeartbeats 4000000 in
theorem mx_step_St {kb : mK} {tab : List mM} {call : Nat → List Value → mW → Option (Option Value × mW)} {sc : Option Nat} {M : mM} {d : Nat} {σ σ' : mS} (htab : ∀ M ∈ tab, mx_mok (fun a => tab[a]?.map (fun M => M.1)) M = true) (hM : mx_wok (fun a => tab[a]?.map (fun M => M.1)) M)
    (X : mx_X kb p R s m meth c D cy r B M sc H0 d) (hcall : ∀ a As w v w', call a As w = some (v, w') → ∀ M, tab[a]? = some M → mx_Met l D cy r B M d As w v w') (h : mx_step kb tab call sc M σ = some σ') : mx_St p l e R s m args below meth c D cy r B H0 M.2.2.1.1 σ σ' := by
  obtain ⟨hx, hb, hml, hown, hE, hK, hr, hsc, hnm, hfr, hlo, hkb⟩ := X
  obtain ⟨m1, m2, m11⟩ := hM
  intro Q n0 z0 H ls locs hl hR hS hn0 hz0 hrc hrs k
  obtain ⟨pc, lv, st, w⟩ := σ
  unfold mx_step at h
  split at h
  · cases h
  · rename_i i hi
    obtain ⟨n, hd, hn⟩ := mx_rowok_spec (m1 _ (mx_lki hi))
    have hd' : mx_isT i = false → decode M.2.1 pc = .ok (i, mx_len i) := fun q => by
      rcases hn with hn | hn
      · rw [hn] at hd; exact hd
      · rw [q] at hn; cases hn
    split at h
    · rename_i st' hp
      cases h
      have hT : mx_isT i = false := by
        cases i <;> first | rfl | (simp [mx_pure] at hp; done) | (cases hp; done)
      exact mx_pure_W hx hb hr (hd' hT) hp (k ls H locs hl hR hS)
    · split at h
      · rename_i lv' st' hp
        cases h
        have hT : mx_isT i = false := by
          cases i <;> first | rfl | (simp [mx_loc] at hp; done) | (cases hp; done)
        exact mx_loc_W hx hb hr hl (hd' hT) hp (fun ls' hl' => k ls' H locs hl' hR hS)
      · split at h
        · rename_i pc' st' hp
          cases h
          exact mx_br_W hx hb hkb hr hd (hn.imp id (fun q => by cases i <;> first | (cases q; done) | exact ⟨_, _, _, _, rfl⟩)) hp (k ls H locs hl hR hS)
        · split at h
          · rename_i st' w' hp
            cases h
            have hT : mx_isT i = false := by
              cases i <;> first | rfl | (simp [mx_mem] at hp; done) | (cases hp; done)
            exact mx_mem_W hx hb hkb hE hown hK hr m2 (fun ci q => by rw [hnm]; exact m11 ci q) hsc (by omega) (by omega) (hl.1.trans hml.symm) hR hS hn0 hz0 hrc hrs (hd' hT) hp (fun H' locs' hR' hS' => k ls H' locs' hl hR' hS')
          · split at h
            · rename_i st' w' hp
              cases h
              have hT : mx_isT i = false := by
                cases i <;> first | rfl | (simp [mx_ivk] at hp; done) | (cases hp; done)
              exact mx_ivk_W hx hb hml hl.1 hE hown hK hr m2 htab hfr hlo hcall hR hS hn0 hz0 hrc hrs (hd' hT) hp (fun H' locs' hR' hS' => k ls H' locs' hl hR' hS')
            · cases h
end MX5
end
section
section MX6
variable {p : Program} {l : Launch} {e : Env} {R : Room} {s : State} {m : MethodId} {args : Array Value} {below : List Frame} {meth : Method} {c : Code}
variable {r : Nat → Value} {B : Nat} {D : va_G} {cy : Nat → ClassId} {H0 : Heap}
/-- a jump that stands for many steps -/
def mx_Jmp (p : Program) (l : Launch) (e : Env) (R : Room) (s : State) (m : MethodId) (args : Array Value) (below : List Frame) (meth : Method) (c : Code) (D : va_G) (cy : Nat → ClassId) (r : Nat → Value) (B : Nat) (H0 : Heap) (nL : Nat) (jmp : mS → Option mS) : Prop :=
  ∀ σ σ', jmp σ = some σ' → mx_le σ σ' ∧ mx_St p l e R s m args below meth c D cy r B H0 nL σ σ'
theorem mx_stp_mono {kb : mK} {tab : List mM} {call : Nat → List Value → mW → Option (Option Value × mW)} {sc : Option Nat} {jmp : mS → Option mS} (hj : ∀ σ σ', jmp σ = some σ' → mx_le σ σ') {M : mM} {σ σ' : mS} (h : mx_stp kb tab call sc jmp M σ = some σ') : mx_le σ σ' := by
  unfold mx_stp at h
  split at h
  · rename_i hq
    cases h; exact hj _ _ hq
  · exact mx_step_mono h
theorem mx_runN_mono {kb : mK} {tab : List mM} {call : Nat → List Value → mW → Option (Option Value × mW)} {sc : Option Nat} {jmp : mS → Option mS} (hj : ∀ σ σ', jmp σ = some σ' → mx_le σ σ') {M : mM} : ∀ (n : Nat) {σ σ' : mS}, mx_runN kb tab call sc jmp M n σ = some σ' → mx_le σ σ'
  | 0, σ, σ', h => by cases h; exact ⟨Nat.le_refl _, Nat.le_refl _⟩
  | n + 1, σ, σ', h => by
    unfold mx_runN at h
    split at h
    · rename_i σ1 h1
      have a := mx_stp_mono hj h1
      have b := mx_runN_mono hj n h
      exact ⟨Nat.le_trans a.1 b.1, Nat.le_trans a.2 b.2⟩
    · cases h
theorem mx_stp_St {kb : mK} {tab : List mM} {call : Nat → List Value → mW → Option (Option Value × mW)} {sc : Option Nat} {jmp : mS → Option mS} {M : mM} {d : Nat} {σ σ' : mS} (htab : ∀ M ∈ tab, mx_mok (fun a => tab[a]?.map (fun M => M.1)) M = true) (hM : mx_wok (fun a => tab[a]?.map (fun M => M.1)) M)
    (X : mx_X kb p R s m meth c D cy r B M sc H0 d) (hcall : ∀ a As w v w', call a As w = some (v, w') → ∀ M, tab[a]? = some M → mx_Met l D cy r B M d As w v w') (hj : mx_Jmp p l e R s m args below meth c D cy r B H0 M.2.2.1.1 jmp) (h : mx_stp kb tab call sc jmp M σ = some σ') : mx_St p l e R s m args below meth c D cy r B H0 M.2.2.1.1 σ σ' := by
  unfold mx_stp at h
  split at h
  · rename_i hq
    cases h; exact (hj _ _ hq).2
  · exact mx_step_St htab hM X hcall h
/-- many steps -/
theorem mx_runN_St {kb : mK} {tab : List mM} {call : Nat → List Value → mW → Option (Option Value × mW)} {sc : Option Nat} {jmp : mS → Option mS} {M : mM} {d : Nat} (htab : ∀ M ∈ tab, mx_mok (fun a => tab[a]?.map (fun M => M.1)) M = true) (hM : mx_wok (fun a => tab[a]?.map (fun M => M.1)) M)
    (X : mx_X kb p R s m meth c D cy r B M sc H0 d) (hcall : ∀ a As w v w', call a As w = some (v, w') → ∀ M, tab[a]? = some M → mx_Met l D cy r B M d As w v w') (hj : mx_Jmp p l e R s m args below meth c D cy r B H0 M.2.2.1.1 jmp) : ∀ (n : Nat) {σ σ' : mS}, mx_runN kb tab call sc jmp M n σ = some σ' → mx_St p l e R s m args below meth c D cy r B H0 M.2.2.1.1 σ σ'
  | 0, σ, σ', h => by
    cases h
    exact fun Q n0 z0 H ls locs hl hR hS _ _ _ _ k => k ls H locs hl hR hS
  | n + 1, σ, σ', h => by
    unfold mx_runN at h
    split at h
    · rename_i σ1 h1
      have a := mx_stp_mono (fun σ σ' q => (hj σ σ' q).1) h1
      have b := mx_runN_mono (fun σ σ' q => (hj σ σ' q).1) n h
      have ih := mx_runN_St htab hM X hcall hj n h
      intro Q n0 z0 H ls locs hl hR hS hn0 hz0 hrc hrs k
      refine mx_stp_St htab hM X hcall hj h1 Q n0 z0 H ls locs hl hR hS hn0 hz0 (by have := b.1; omega) (by have := b.2; omega) (fun ls' H' locs' hl' hR' hS' => ?_)
      exact ih Q n0 z0 H' ls' locs' hl' hR' hS' (Nat.le_trans hn0 a.1) (Nat.le_trans hz0 a.2) hrc hrs k
    · cases h
theorem mx_ret_w {M : mM} {σ : mS} {v : Option Value} {w' : mW} (h : mx_ret M σ = some (v, w')) : w' = σ.2.2.2 := by
  unfold mx_ret at h
  split at h
  · split at h
    · split at h <;> cases h; rfl
    · cases h
  · split at h <;> cases h; rfl
  · split at h <;> cases h; rfl
  · cases h
theorem mx_loop_mono {kb : mK} {tab : List mM} {call : Nat → List Value → mW → Option (Option Value × mW)} {jmp : mS → Option mS} (hj : ∀ σ σ', jmp σ = some σ' → mx_le σ σ') {M : mM} : ∀ (n : Nat) {σ : mS} {v : Option Value} {w' : mW}, mx_loop kb tab call jmp M n σ = some (v, w') → σ.2.2.2.1.length ≤ w'.1.length ∧ σ.2.2.2.2 ≤ w'.2
  | 0, σ, v, w', h => by cases h
  | n + 1, σ, v, w', h => by
    unfold mx_loop at h
    split at h
    · rename_i x hx
      cases h
      rw [mx_ret_w hx]
      exact ⟨Nat.le_refl _, Nat.le_refl _⟩
    · split at h
      · rename_i σ1 h1
        have a := mx_stp_mono hj h1
        have b := mx_loop_mono hj n h
        exact ⟨Nat.le_trans a.1 b.1, Nat.le_trans a.2 b.2⟩
      · cases h
set_option maxHeartbeats 4000000 in
theorem mx_ret_W {kb : mK} {H : Heap} {locs : List Loc} {ls : Array Slot} {M : mM} {sc : Option Nat} {d n0 z0 : Nat} {σ : mS} {v : Option Value} {w' : mW} {nms : Nat → Option MethodName} (hM : mx_wok nms M) (X : mx_X kb p R s m meth c D cy r B M sc s.heap d) (hret : meth.sig.returnType = M.2.2.1.2.1) (hlocks : meth.locks = false) (hR : mx_R D cy r B σ.2.2.2 H) (hS : va_S (fun q => B ≤ q) s.heap H locs) (h : mx_ret M σ = some (v, w')) :
    W p l e R s m args below meth c H locs (w'.1.length - n0) (w'.2 - z0) (MQ below (mx_Qc D cy r B v w') args s (w'.1.length - n0) (w'.2 - z0) (fun q => B ≤ q)) (F0 m σ.1 ls (σ.2.2.1.map (mx_v r))) := by
  obtain ⟨hx, hb, hml, hown, hE, hK, hr, hsc, hnm, hfr, hlo, hkb⟩ := X
  obtain ⟨m1, -⟩ := hM
  have hw := mx_ret_w h
  subst hw
  obtain ⟨pc, lv, st, w⟩ := σ
  have dec : ∀ i, M.2.2.2.2.1.lookup pc = some i → mx_isT i = false → mx_len i = 1 → decode M.2.1 pc = .ok (i, 1) := by
    intro i hi hT h1
    obtain ⟨n, hd, hn⟩ := mx_rowok_spec (m1 _ (mx_lki hi))
    rcases hn with hn | hn
    · rw [hn, h1] at hd; exact hd
    · rw [hT] at hn; cases hn
  unfold mx_ret at h
  dsimp only at h
  split at h
  · rename_i v' hi
    split at h
    · rename_i ty hty
      split at h
      · rename_i hnar
        cases h
        exact W.zret hx hb (by rw [hret]; exact hty) hnar (fun t ht hW => ⟨rfl, by rw [ht]; exact hR, hS.F ht⟩) hS.2.2 (dec _ hi rfl rfl) hlocks
      · cases h
    · cases h
  · rename_i v' hi
    split at h
    · rename_i hty
      cases h
      exact W.lret hx hb (by rw [hret]; exact hty) (fun t ht hW => ⟨rfl, by rw [ht]; exact hR, hS.F ht⟩) hS.2.2 (dec _ hi rfl rfl) hlocks
    · cases h
  · rename_i hi
    split at h
    · rename_i hty
      cases h
      exact W.vret hx hb (by rw [hret]; exact hty) (fun t ht hW => ⟨rfl, by rw [ht]; exact hR, hS.F ht⟩) hS.2.2 (dec _ hi rfl rfl) hlocks
    · cases h
  · cases h
theorem mx_loop_W {kb : mK} {tab : List mM} {call : Nat → List Value → mW → Option (Option Value × mW)} {jmp : mS → Option mS} {M : mM} {d n0 z0 : Nat} {v : Option Value} {w' : mW} (htab : ∀ M ∈ tab, mx_mok (fun a => tab[a]?.map (fun M => M.1)) M = true) (hM : mx_wok (fun a => tab[a]?.map (fun M => M.1)) M)
    (X : mx_X kb p R s m meth c D cy r B M none s.heap d) (hret : meth.sig.returnType = M.2.2.1.2.1) (hlocks : meth.locks = false) (hcall : ∀ a As w v w', call a As w = some (v, w') → ∀ M, tab[a]? = some M → mx_Met l D cy r B M d As w v w') (hj : mx_Jmp p l e R s m args below meth c D cy r B s.heap M.2.2.1.1 jmp) (hrc : w'.1.length - n0 ≤ R.cells) (hrs : w'.2 - z0 ≤ R.slots) :
    ∀ (n : Nat) {σ : mS} {H : Heap} {ls : Array Slot} {locs : List Loc}, mx_loop kb tab call jmp M n σ = some (v, w') → lv_has ls M.2.2.1.1 (mx_lv r σ.2.1) → mx_R D cy r B σ.2.2.2 H → va_S (fun q => B ≤ q) s.heap H locs → n0 ≤ σ.2.2.2.1.length → z0 ≤ σ.2.2.2.2 →
      W p l e R s m args below meth c H locs (σ.2.2.2.1.length - n0) (σ.2.2.2.2 - z0) (MQ below (mx_Qc D cy r B v w') args s (w'.1.length - n0) (w'.2 - z0) (fun q => B ≤ q)) (F0 m σ.1 ls (σ.2.2.1.map (mx_v r)))
  | 0, σ, H, ls, locs, h, _, _, _, _, _ => by cases h
  | n + 1, σ, H, ls, locs, h, hl, hR, hS, hn0, hz0 => by
    unfold mx_loop at h
    split at h
    · rename_i x hx
      cases h
      have hw := mx_ret_w hx
      rw [show σ.2.2.2 = w' from hw.symm]
      exact mx_ret_W hM X hret hlocks hR hS hx
    · split at h
      · rename_i σ1 h1
        have a := mx_stp_mono (fun σ σ' q => (hj σ σ' q).1) h1
        have b := mx_loop_mono (fun σ σ' q => (hj σ σ' q).1) n h
        refine mx_stp_St htab hM X hcall hj h1 _ n0 z0 H ls locs hl hR hS hn0 hz0 (by have := b.1; omega) (by have := b.2; omega) (fun ls' H' locs' hl' hR' hS' => ?_)
        exact mx_loop_W htab hM X hret hlocks hcall hj hrc hrs n h hl' hR' hS' (Nat.le_trans hn0 a.1) (Nat.le_trans hz0 a.2)
      · cases h
theorem mx_args (hr : mx_r r B) : ∀ (a : List Value) (i : Nat), lv_args i (a.map (mx_v r)) = mx_lv r (lv_args i a)
  | [], i => rfl
  | v :: t, i => by
    have e : (mx_v r v).category = v.category := mx_cat hr v
    simp only [List.map_cons, lv_args, mx_lv]
    rw [e]
    congr 1
    exact mx_args hr t _
theorem mx_sl (hr : mx_r r B) : ∀ (a : List Value), (lg_sl (a.map (mx_v r))).length = (a.map fun v => v.category).sum
  | [] => rfl
  | v :: t => by
    have e : (mx_v r v).category = v.category := mx_cat hr v
    have ih := mx_sl hr t
    have hc : v.category = 1 ∨ v.category = 2 := by cases v <;> simp [Value.category]
    rw [List.map_cons, List.map_cons, List.sum_cons, ← ih]
    rcases hc with hc | hc <;> simp [lg_sl, List.flatMap_cons, e, hc] <;> omega
/-- a run of a method is its contract -/
theorem mx_met {kb : mK} {tab : List mM} {ovr : Nat → List Value → mW → Option (Option Value × mW)} {jmp : Nat → mS → Option mS} (htab : ∀ M ∈ tab, mx_mok (fun a => tab[a]?.map (fun M => M.1)) M = true) (hr : mx_r r B) (hkb : mx_kb kb r)
    (hovr : ∀ d a As w v w', ovr a As w = some (v, w') → ∀ M, tab[a]? = some M → mx_Met l D cy r B M (d + 1) As w v w')
    (hjmp : ∀ y M, tab[y]? = some M → ∀ (p : Program) (e : Env) (R : Room) (s : State) (m : MethodId) (args : Array Value) (below : List Frame) (meth : Method) (c : Code) (d : Nat), mx_X kb p R s m meth c D cy r B M none s.heap d → mx_Jmp p l e R s m args below meth c D cy r B s.heap M.2.2.1.1 (jmp y)) :
    ∀ (d a : Nat) (As : List Value) (w : mW) (v : Option Value) (w' : mW), mx_call kb tab ovr jmp d a As w = some (v, w') → ∀ M, tab[a]? = some M → mx_Met l D cy r B M d As w v w'
  | 0, a, As, w, v, w', h, M, hM => by cases h
  | d + 1, a, As, w, v, w', h, M, hM => by
    unfold mx_call at h
    split at h
    · rename_i x hx
      cases h
      exact hovr d a As w v w' hx M hM
    · rw [hM] at h
      dsimp only at h
      split at h
      · rename_i hsum
        have hok := htab M (List.mem_of_getElem? hM)
        obtain ⟨m1, m2, m3, m4, m5, m6, m7, m8, m9, m10, m11⟩ := mx_Mok hok
        unfold mx_Met
        refine Met.ofW (cc := M.2.1) (maxL := M.2.2.1.1) (ret := M.2.2.1.2.1) (ws' := []) m9 rfl ?_
        intro p e s m args below meth c s₁ Bd hml hv
        obtain ⟨rfl, hE, hK, hR⟩ := hv
        have hown : s.vm.findClass M.1.cls = some m.cls := findClass_of_methodNamed Bd.named
        have hnm : meth.name = M.1.name := (name_of_methodNamed Bd.named Bd.method).1
        have X : mx_X kb p (mx_room (d + 1) w w') s m meth c D cy r B M none s.heap d := ⟨Bd.exec, Bd.bytes, hml, hown, hE, hK, hr, (fun L q => by cases q), hnm, Nat.le_refl _, Nat.le_refl _, hkb⟩
        have hle : (lg_sl (As.map (mx_v r))).length ≤ M.2.2.1.1 := by rw [mx_sl hr]; exact Nat.le_of_ble_eq_true hsum
        have hl := lv_entry (As.map (mx_v r)) (n := M.2.2.1.1) hle
        rw [mx_args hr] at hl
        rw [lg_entry_eq]
        have ih := mx_met htab hr hkb hovr hjmp d
        have key := mx_loop_W (p := p) (l := l) (e := e) (R := mx_room (d + 1) w w') (s := s) (m := m) (args := (As.map (mx_v r)).toArray) (below := below) (meth := meth) (c := c) (n0 := w.1.length) (z0 := w.2) htab (mx_wok_of hok) X Bd.returns Bd.notSynchronized (fun a As w v w' q M hM => ih a As w v w' q M hM) (hjmp a M hM p e _ s m _ below meth c d X) (Nat.le_refl _) (Nat.le_refl _) 1000000 h hl hR va_S.rf (Nat.le_refl _) (Nat.le_refl _)
        refine W.cs (cells' := w.1.length - w.1.length) (slots' := w.2 - w.2) (by omega) (by omega) ?_
        exact key
      · cases h
end MX6
end
