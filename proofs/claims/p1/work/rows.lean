section
-- ===== PART A: goes FIRST, ahead of the names: the tables' words, and 'selects' of the private methods out of them =====
/-- a private method of a class that the tables say can be made, by its rows of tables_1 -/
def lw_okq (q : MethodName × Nat) : Prop := (q.1.cls ≠ "java/lang/invoke/MethodHandle" ∧ q.1.cls ≠ "java/lang/invoke/VarHandle") ∧ Cond.instantiable q.1.cls q.2 ∈ tables_1 ∧ Cond.privateMethod q.1 ∈ tables_1 ∧ Cond.instanceMethod q.1 ∈ tables_1
theorem lw_p0 : lw_okq (⟨"BoundTables$Table", "startOver", "()V"⟩, 15) := ⟨⟨by decide +kernel, by decide +kernel⟩, List.mem_of_getElem? (i := 120) (by decide +kernel), List.mem_of_getElem? (i := 157) (by decide +kernel), List.mem_of_getElem? (i := 158) (by decide +kernel)⟩
theorem lw_p1 : lw_okq (⟨"BoundTables$Overs", "startOver", "()V"⟩, 7) := ⟨⟨by decide +kernel, by decide +kernel⟩, List.mem_of_getElem? (i := 126) (by decide +kernel), List.mem_of_getElem? (i := 161) (by decide +kernel), List.mem_of_getElem? (i := 162) (by decide +kernel)⟩
theorem lw_p2 : lw_okq (⟨"BoundTables$Table", "addClass", "(J)I"⟩, 15) := ⟨⟨by decide +kernel, by decide +kernel⟩, List.mem_of_getElem? (i := 120) (by decide +kernel), List.mem_of_getElem? (i := 169) (by decide +kernel), List.mem_of_getElem? (i := 170) (by decide +kernel)⟩
theorem lw_p3 : lw_okq (⟨"BoundTables$Overs", "addOwn", "(III)V"⟩, 7) := ⟨⟨by decide +kernel, by decide +kernel⟩, List.mem_of_getElem? (i := 126) (by decide +kernel), List.mem_of_getElem? (i := 173) (by decide +kernel), List.mem_of_getElem? (i := 174) (by decide +kernel)⟩
theorem lw_p4 : lw_okq (⟨"BoundTables$Overs", "makeRoom", "(I)V"⟩, 7) := ⟨⟨by decide +kernel, by decide +kernel⟩, List.mem_of_getElem? (i := 126) (by decide +kernel), List.mem_of_getElem? (i := 177) (by decide +kernel), List.mem_of_getElem? (i := 178) (by decide +kernel)⟩
theorem lw_p5 : lw_okq (⟨"BoundTables$Overs", "write", "(I)V"⟩, 7) := ⟨⟨by decide +kernel, by decide +kernel⟩, List.mem_of_getElem? (i := 126) (by decide +kernel), List.mem_of_getElem? (i := 205) (by decide +kernel), List.mem_of_getElem? (i := 206) (by decide +kernel)⟩
theorem lw_p6 : lw_okq (⟨"BoundTables$Asker", "startOver", "(LBoundTables$Table;I)V"⟩, 15) := ⟨⟨by decide +kernel, by decide +kernel⟩, List.mem_of_getElem? (i := 327) (by decide +kernel), List.mem_of_getElem? (i := 420) (by decide +kernel), List.mem_of_getElem? (i := 421) (by decide +kernel)⟩
theorem lw_p7 : lw_okq (⟨"BoundTables$Types", "startOver", "(LBoundTables$Table;)V"⟩, 9) := ⟨⟨by decide +kernel, by decide +kernel⟩, List.mem_of_getElem? (i := 333) (by decide +kernel), List.mem_of_getElem? (i := 424) (by decide +kernel), List.mem_of_getElem? (i := 425) (by decide +kernel)⟩
theorem lw_p8 : lw_okq (⟨"BoundTables$Types", "leaf", "(I)I"⟩, 9) := ⟨⟨by decide +kernel, by decide +kernel⟩, List.mem_of_getElem? (i := 333) (by decide +kernel), List.mem_of_getElem? (i := 429) (by decide +kernel), List.mem_of_getElem? (i := 430) (by decide +kernel)⟩
theorem lw_p9 : lw_okq (⟨"BoundTables$Types", "make", "(II)I"⟩, 9) := ⟨⟨by decide +kernel, by decide +kernel⟩, List.mem_of_getElem? (i := 333) (by decide +kernel), List.mem_of_getElem? (i := 433) (by decide +kernel), List.mem_of_getElem? (i := 434) (by decide +kernel)⟩
theorem lw_p10 : lw_okq (⟨"BoundTables$Table", "arity", "(I)I"⟩, 15) := ⟨⟨by decide +kernel, by decide +kernel⟩, List.mem_of_getElem? (i := 120) (by decide +kernel), List.mem_of_getElem? (i := 437) (by decide +kernel), List.mem_of_getElem? (i := 438) (by decide +kernel)⟩
theorem lw_p11 : lw_okq (⟨"BoundTables$Types", "hasParts", "(III)Z"⟩, 9) := ⟨⟨by decide +kernel, by decide +kernel⟩, List.mem_of_getElem? (i := 333) (by decide +kernel), List.mem_of_getElem? (i := 444) (by decide +kernel), List.mem_of_getElem? (i := 445) (by decide +kernel)⟩
theorem lw_p12 : lw_okq (⟨"BoundTables$Asker", "tellOwnBounds", "(I)V"⟩, 15) := ⟨⟨by decide +kernel, by decide +kernel⟩, List.mem_of_getElem? (i := 327) (by decide +kernel), List.mem_of_getElem? (i := 452) (by decide +kernel), List.mem_of_getElem? (i := 453) (by decide +kernel)⟩
theorem lw_p13 : lw_okq (⟨"BoundTables$Asker", "nodeOf", "([III)I"⟩, 15) := ⟨⟨by decide +kernel, by decide +kernel⟩, List.mem_of_getElem? (i := 327) (by decide +kernel), List.mem_of_getElem? (i := 456) (by decide +kernel), List.mem_of_getElem? (i := 457) (by decide +kernel)⟩
theorem lw_p14 : lw_okq (⟨"BoundTables$Types", "put", "([III[III)I"⟩, 9) := ⟨⟨by decide +kernel, by decide +kernel⟩, List.mem_of_getElem? (i := 333) (by decide +kernel), List.mem_of_getElem? (i := 460) (by decide +kernel), List.mem_of_getElem? (i := 461) (by decide +kernel)⟩
theorem lw_p15 : lw_okq (⟨"BoundTables$Reader", "readTable", "(LBoundTables$Table;)Z"⟩, 11) := ⟨⟨by decide +kernel, by decide +kernel⟩, List.mem_of_getElem? (i := 280) (by decide +kernel), List.mem_of_getElem? (i := 496) (by decide +kernel), List.mem_of_getElem? (i := 497) (by decide +kernel)⟩
def lw_privs_1 : List (MethodName × Nat) := [(⟨"BoundTables$Table", "startOver", "()V"⟩, 15), (⟨"BoundTables$Overs", "startOver", "()V"⟩, 7), (⟨"BoundTables$Table", "addClass", "(J)I"⟩, 15), (⟨"BoundTables$Overs", "addOwn", "(III)V"⟩, 7), (⟨"BoundTables$Overs", "makeRoom", "(I)V"⟩, 7), (⟨"BoundTables$Overs", "write", "(I)V"⟩, 7), (⟨"BoundTables$Asker", "startOver", "(LBoundTables$Table;I)V"⟩, 15), (⟨"BoundTables$Types", "startOver", "(LBoundTables$Table;)V"⟩, 9), (⟨"BoundTables$Types", "leaf", "(I)I"⟩, 9), (⟨"BoundTables$Types", "make", "(II)I"⟩, 9), (⟨"BoundTables$Table", "arity", "(I)I"⟩, 15), (⟨"BoundTables$Types", "hasParts", "(III)Z"⟩, 9), (⟨"BoundTables$Asker", "tellOwnBounds", "(I)V"⟩, 15), (⟨"BoundTables$Asker", "nodeOf", "([III)I"⟩, 15), (⟨"BoundTables$Types", "put", "([III[III)I"⟩, 9), (⟨"BoundTables$Reader", "readTable", "(LBoundTables$Table;)Z"⟩, 11)]
theorem lw_r1 : ∀ q ∈ lw_privs_1, lw_okq q := List.forall_mem_cons.mpr ⟨lw_p0, List.forall_mem_cons.mpr ⟨lw_p1, List.forall_mem_cons.mpr ⟨lw_p2, List.forall_mem_cons.mpr ⟨lw_p3, List.forall_mem_cons.mpr ⟨lw_p4, List.forall_mem_cons.mpr ⟨lw_p5, List.forall_mem_cons.mpr ⟨lw_p6, List.forall_mem_cons.mpr ⟨lw_p7, List.forall_mem_cons.mpr ⟨lw_p8, List.forall_mem_cons.mpr ⟨lw_p9, List.forall_mem_cons.mpr ⟨lw_p10, List.forall_mem_cons.mpr ⟨lw_p11, List.forall_mem_cons.mpr ⟨lw_p12, List.forall_mem_cons.mpr ⟨lw_p13, List.forall_mem_cons.mpr ⟨lw_p14, List.forall_mem_cons.mpr ⟨lw_p15, fun _ h => absurd h List.not_mem_nil⟩⟩⟩⟩⟩⟩⟩⟩⟩⟩⟩⟩⟩⟩⟩⟩
theorem lw_p16 : lw_okq (⟨"BoundTables$Reader", "start", "(LBoundTables$Table;[I)V"⟩, 11) := ⟨⟨by decide +kernel, by decide +kernel⟩, List.mem_of_getElem? (i := 280) (by decide +kernel), List.mem_of_getElem? (i := 501) (by decide +kernel), List.mem_of_getElem? (i := 502) (by decide +kernel)⟩
theorem lw_p17 : lw_okq (⟨"BoundTables$Tape", "cut", "()V"⟩, 9) := ⟨⟨by decide +kernel, by decide +kernel⟩, List.mem_of_getElem? (i := 34) (by decide +kernel), List.mem_of_getElem? (i := 505) (by decide +kernel), List.mem_of_getElem? (i := 506) (by decide +kernel)⟩
theorem lw_p18 : lw_okq (⟨"BoundTables$Tape", "nameSize", "(I)I"⟩, 9) := ⟨⟨by decide +kernel, by decide +kernel⟩, List.mem_of_getElem? (i := 34) (by decide +kernel), List.mem_of_getElem? (i := 509) (by decide +kernel), List.mem_of_getElem? (i := 510) (by decide +kernel)⟩
theorem lw_p19 : lw_okq (⟨"BoundTables$Tape", "nameOf", "(II)J"⟩, 9) := ⟨⟨by decide +kernel, by decide +kernel⟩, List.mem_of_getElem? (i := 34) (by decide +kernel), List.mem_of_getElem? (i := 521) (by decide +kernel), List.mem_of_getElem? (i := 522) (by decide +kernel)⟩
theorem lw_p20 : lw_okq (⟨"BoundTables$Tape", "step", "()V"⟩, 9) := ⟨⟨by decide +kernel, by decide +kernel⟩, List.mem_of_getElem? (i := 34) (by decide +kernel), List.mem_of_getElem? (i := 614) (by decide +kernel), List.mem_of_getElem? (i := 615) (by decide +kernel)⟩
theorem lw_p21 : lw_okq (⟨"BoundTables$Reader", "declaration", "()Z"⟩, 11) := ⟨⟨by decide +kernel, by decide +kernel⟩, List.mem_of_getElem? (i := 280) (by decide +kernel), List.mem_of_getElem? (i := 618) (by decide +kernel), List.mem_of_getElem? (i := 619) (by decide +kernel)⟩
theorem lw_p22 : lw_okq (⟨"BoundTables$Reader", "fail", "(I)Z"⟩, 11) := ⟨⟨by decide +kernel, by decide +kernel⟩, List.mem_of_getElem? (i := 280) (by decide +kernel), List.mem_of_getElem? (i := 622) (by decide +kernel), List.mem_of_getElem? (i := 623) (by decide +kernel)⟩
theorem lw_p23 : lw_okq (⟨"BoundTables$Table", "findClass", "(J)I"⟩, 15) := ⟨⟨by decide +kernel, by decide +kernel⟩, List.mem_of_getElem? (i := 120) (by decide +kernel), List.mem_of_getElem? (i := 626) (by decide +kernel), List.mem_of_getElem? (i := 627) (by decide +kernel)⟩
theorem lw_p24 : lw_okq (⟨"BoundTables$Reader", "parameterNames", "()Z"⟩, 11) := ⟨⟨by decide +kernel, by decide +kernel⟩, List.mem_of_getElem? (i := 280) (by decide +kernel), List.mem_of_getElem? (i := 632) (by decide +kernel), List.mem_of_getElem? (i := 633) (by decide +kernel)⟩
theorem lw_p25 : lw_okq (⟨"BoundTables$Table", "findParameter", "(IJ)I"⟩, 15) := ⟨⟨by decide +kernel, by decide +kernel⟩, List.mem_of_getElem? (i := 120) (by decide +kernel), List.mem_of_getElem? (i := 636) (by decide +kernel), List.mem_of_getElem? (i := 637) (by decide +kernel)⟩
theorem lw_p26 : lw_okq (⟨"BoundTables$Table", "addParameter", "(IJ)V"⟩, 15) := ⟨⟨by decide +kernel, by decide +kernel⟩, List.mem_of_getElem? (i := 120) (by decide +kernel), List.mem_of_getElem? (i := 643) (by decide +kernel), List.mem_of_getElem? (i := 644) (by decide +kernel)⟩
theorem lw_p27 : lw_okq (⟨"BoundTables$Reader", "bounds", "()Z"⟩, 11) := ⟨⟨by decide +kernel, by decide +kernel⟩, List.mem_of_getElem? (i := 280) (by decide +kernel), List.mem_of_getElem? (i := 647) (by decide +kernel), List.mem_of_getElem? (i := 648) (by decide +kernel)⟩
theorem lw_p28 : lw_okq (⟨"BoundTables$Reader", "boundName", "()I"⟩, 11) := ⟨⟨by decide +kernel, by decide +kernel⟩, List.mem_of_getElem? (i := 280) (by decide +kernel), List.mem_of_getElem? (i := 651) (by decide +kernel), List.mem_of_getElem? (i := 652) (by decide +kernel)⟩
theorem lw_p29 : lw_okq (⟨"BoundTables$Reader", "type", "(IIZ)Z"⟩, 11) := ⟨⟨by decide +kernel, by decide +kernel⟩, List.mem_of_getElem? (i := 280) (by decide +kernel), List.mem_of_getElem? (i := 656) (by decide +kernel), List.mem_of_getElem? (i := 657) (by decide +kernel)⟩
theorem lw_p30 : lw_okq (⟨"BoundTables$Table", "headOf", "(IJ)I"⟩, 15) := ⟨⟨by decide +kernel, by decide +kernel⟩, List.mem_of_getElem? (i := 120) (by decide +kernel), List.mem_of_getElem? (i := 660) (by decide +kernel), List.mem_of_getElem? (i := 661) (by decide +kernel)⟩
theorem lw_p31 : lw_okq (⟨"BoundTables$Reader", "tell", "(I)V"⟩, 11) := ⟨⟨by decide +kernel, by decide +kernel⟩, List.mem_of_getElem? (i := 280) (by decide +kernel), List.mem_of_getElem? (i := 667) (by decide +kernel), List.mem_of_getElem? (i := 668) (by decide +kernel)⟩
def lw_privs_2 : List (MethodName × Nat) := [(⟨"BoundTables$Reader", "start", "(LBoundTables$Table;[I)V"⟩, 11), (⟨"BoundTables$Tape", "cut", "()V"⟩, 9), (⟨"BoundTables$Tape", "nameSize", "(I)I"⟩, 9), (⟨"BoundTables$Tape", "nameOf", "(II)J"⟩, 9), (⟨"BoundTables$Tape", "step", "()V"⟩, 9), (⟨"BoundTables$Reader", "declaration", "()Z"⟩, 11), (⟨"BoundTables$Reader", "fail", "(I)Z"⟩, 11), (⟨"BoundTables$Table", "findClass", "(J)I"⟩, 15), (⟨"BoundTables$Reader", "parameterNames", "()Z"⟩, 11), (⟨"BoundTables$Table", "findParameter", "(IJ)I"⟩, 15), (⟨"BoundTables$Table", "addParameter", "(IJ)V"⟩, 15), (⟨"BoundTables$Reader", "bounds", "()Z"⟩, 11), (⟨"BoundTables$Reader", "boundName", "()I"⟩, 11), (⟨"BoundTables$Reader", "type", "(IIZ)Z"⟩, 11), (⟨"BoundTables$Table", "headOf", "(IJ)I"⟩, 15), (⟨"BoundTables$Reader", "tell", "(I)V"⟩, 11)]
theorem lw_r2 : ∀ q ∈ lw_privs_2, lw_okq q := List.forall_mem_cons.mpr ⟨lw_p16, List.forall_mem_cons.mpr ⟨lw_p17, List.forall_mem_cons.mpr ⟨lw_p18, List.forall_mem_cons.mpr ⟨lw_p19, List.forall_mem_cons.mpr ⟨lw_p20, List.forall_mem_cons.mpr ⟨lw_p21, List.forall_mem_cons.mpr ⟨lw_p22, List.forall_mem_cons.mpr ⟨lw_p23, List.forall_mem_cons.mpr ⟨lw_p24, List.forall_mem_cons.mpr ⟨lw_p25, List.forall_mem_cons.mpr ⟨lw_p26, List.forall_mem_cons.mpr ⟨lw_p27, List.forall_mem_cons.mpr ⟨lw_p28, List.forall_mem_cons.mpr ⟨lw_p29, List.forall_mem_cons.mpr ⟨lw_p30, List.forall_mem_cons.mpr ⟨lw_p31, fun _ h => absurd h List.not_mem_nil⟩⟩⟩⟩⟩⟩⟩⟩⟩⟩⟩⟩⟩⟩⟩⟩
theorem lw_p32 : lw_okq (⟨"BoundTables$Tape", "opensArgs", "()Z"⟩, 9) := ⟨⟨by decide +kernel, by decide +kernel⟩, List.mem_of_getElem? (i := 34) (by decide +kernel), List.mem_of_getElem? (i := 672) (by decide +kernel), List.mem_of_getElem? (i := 673) (by decide +kernel)⟩
theorem lw_p33 : lw_okq (⟨"BoundTables$Reader", "args", "(IZ)I"⟩, 11) := ⟨⟨by decide +kernel, by decide +kernel⟩, List.mem_of_getElem? (i := 280) (by decide +kernel), List.mem_of_getElem? (i := 676) (by decide +kernel), List.mem_of_getElem? (i := 677) (by decide +kernel)⟩
theorem lw_p34 : lw_okq (⟨"BoundTables$Reader", "wild", "(IZ)Z"⟩, 11) := ⟨⟨by decide +kernel, by decide +kernel⟩, List.mem_of_getElem? (i := 280) (by decide +kernel), List.mem_of_getElem? (i := 680) (by decide +kernel), List.mem_of_getElem? (i := 681) (by decide +kernel)⟩
theorem lw_p35 : lw_okq (⟨"BoundTables$Reader", "behindType", "(Z)Z"⟩, 11) := ⟨⟨by decide +kernel, by decide +kernel⟩, List.mem_of_getElem? (i := 280) (by decide +kernel), List.mem_of_getElem? (i := 684) (by decide +kernel), List.mem_of_getElem? (i := 685) (by decide +kernel)⟩
theorem lw_p36 : lw_okq (⟨"BoundTables$Table", "addBound", "(III)V"⟩, 15) := ⟨⟨by decide +kernel, by decide +kernel⟩, List.mem_of_getElem? (i := 120) (by decide +kernel), List.mem_of_getElem? (i := 692) (by decide +kernel), List.mem_of_getElem? (i := 693) (by decide +kernel)⟩
theorem lw_p37 : lw_okq (⟨"BoundTables$Reader", "supers", "()Z"⟩, 11) := ⟨⟨by decide +kernel, by decide +kernel⟩, List.mem_of_getElem? (i := 280) (by decide +kernel), List.mem_of_getElem? (i := 698) (by decide +kernel), List.mem_of_getElem? (i := 699) (by decide +kernel)⟩
theorem lw_p38 : lw_okq (⟨"BoundTables$Table", "addSuper", "(II)V"⟩, 15) := ⟨⟨by decide +kernel, by decide +kernel⟩, List.mem_of_getElem? (i := 120) (by decide +kernel), List.mem_of_getElem? (i := 702) (by decide +kernel), List.mem_of_getElem? (i := 703) (by decide +kernel)⟩
theorem lw_p39 : lw_okq (⟨"BoundTables$Table", "closeClass", "(I)Z"⟩, 15) := ⟨⟨by decide +kernel, by decide +kernel⟩, List.mem_of_getElem? (i := 120) (by decide +kernel), List.mem_of_getElem? (i := 706) (by decide +kernel), List.mem_of_getElem? (i := 707) (by decide +kernel)⟩
theorem lw_p40 : lw_okq (⟨"BoundTables$Overs", "startArgs", "()V"⟩, 7) := ⟨⟨by decide +kernel, by decide +kernel⟩, List.mem_of_getElem? (i := 126) (by decide +kernel), List.mem_of_getElem? (i := 711) (by decide +kernel), List.mem_of_getElem? (i := 712) (by decide +kernel)⟩
theorem lw_p41 : lw_okq (⟨"BoundTables$Table", "endOfPart", "(I)I"⟩, 15) := ⟨⟨by decide +kernel, by decide +kernel⟩, List.mem_of_getElem? (i := 120) (by decide +kernel), List.mem_of_getElem? (i := 715) (by decide +kernel), List.mem_of_getElem? (i := 716) (by decide +kernel)⟩
theorem lw_p42 : lw_okq (⟨"BoundTables$Overs", "addArg", "(II)V"⟩, 7) := ⟨⟨by decide +kernel, by decide +kernel⟩, List.mem_of_getElem? (i := 126) (by decide +kernel), List.mem_of_getElem? (i := 719) (by decide +kernel), List.mem_of_getElem? (i := 720) (by decide +kernel)⟩
theorem lw_p43 : lw_okq (⟨"BoundTables$Table", "inheritAll", "(II)Z"⟩, 15) := ⟨⟨by decide +kernel, by decide +kernel⟩, List.mem_of_getElem? (i := 120) (by decide +kernel), List.mem_of_getElem? (i := 723) (by decide +kernel), List.mem_of_getElem? (i := 724) (by decide +kernel)⟩
theorem lw_p44 : lw_okq (⟨"BoundTables$Table", "overLength", "(II)I"⟩, 15) := ⟨⟨by decide +kernel, by decide +kernel⟩, List.mem_of_getElem? (i := 120) (by decide +kernel), List.mem_of_getElem? (i := 727) (by decide +kernel), List.mem_of_getElem? (i := 728) (by decide +kernel)⟩
theorem lw_p45 : lw_okq (⟨"BoundTables$Overs", "inherit", "(III[I)Z"⟩, 7) := ⟨⟨by decide +kernel, by decide +kernel⟩, List.mem_of_getElem? (i := 126) (by decide +kernel), List.mem_of_getElem? (i := 731) (by decide +kernel), List.mem_of_getElem? (i := 732) (by decide +kernel)⟩
theorem lw_p46 : lw_okq (⟨"BoundTables$Overs", "sizeWithArgs", "(II)I"⟩, 7) := ⟨⟨by decide +kernel, by decide +kernel⟩, List.mem_of_getElem? (i := 126) (by decide +kernel), List.mem_of_getElem? (i := 735) (by decide +kernel), List.mem_of_getElem? (i := 736) (by decide +kernel)⟩
theorem lw_p47 : lw_okq (⟨"BoundTables$Overs", "writeArg", "(I[I)V"⟩, 7) := ⟨⟨by decide +kernel, by decide +kernel⟩, List.mem_of_getElem? (i := 126) (by decide +kernel), List.mem_of_getElem? (i := 741) (by decide +kernel), List.mem_of_getElem? (i := 742) (by decide +kernel)⟩
def lw_privs_3 : List (MethodName × Nat) := [(⟨"BoundTables$Tape", "opensArgs", "()Z"⟩, 9), (⟨"BoundTables$Reader", "args", "(IZ)I"⟩, 11), (⟨"BoundTables$Reader", "wild", "(IZ)Z"⟩, 11), (⟨"BoundTables$Reader", "behindType", "(Z)Z"⟩, 11), (⟨"BoundTables$Table", "addBound", "(III)V"⟩, 15), (⟨"BoundTables$Reader", "supers", "()Z"⟩, 11), (⟨"BoundTables$Table", "addSuper", "(II)V"⟩, 15), (⟨"BoundTables$Table", "closeClass", "(I)Z"⟩, 15), (⟨"BoundTables$Overs", "startArgs", "()V"⟩, 7), (⟨"BoundTables$Table", "endOfPart", "(I)I"⟩, 15), (⟨"BoundTables$Overs", "addArg", "(II)V"⟩, 7), (⟨"BoundTables$Table", "inheritAll", "(II)Z"⟩, 15), (⟨"BoundTables$Table", "overLength", "(II)I"⟩, 15), (⟨"BoundTables$Overs", "inherit", "(III[I)Z"⟩, 7), (⟨"BoundTables$Overs", "sizeWithArgs", "(II)I"⟩, 7), (⟨"BoundTables$Overs", "writeArg", "(I[I)V"⟩, 7)]
theorem lw_r3 : ∀ q ∈ lw_privs_3, lw_okq q := List.forall_mem_cons.mpr ⟨lw_p32, List.forall_mem_cons.mpr ⟨lw_p33, List.forall_mem_cons.mpr ⟨lw_p34, List.forall_mem_cons.mpr ⟨lw_p35, List.forall_mem_cons.mpr ⟨lw_p36, List.forall_mem_cons.mpr ⟨lw_p37, List.forall_mem_cons.mpr ⟨lw_p38, List.forall_mem_cons.mpr ⟨lw_p39, List.forall_mem_cons.mpr ⟨lw_p40, List.forall_mem_cons.mpr ⟨lw_p41, List.forall_mem_cons.mpr ⟨lw_p42, List.forall_mem_cons.mpr ⟨lw_p43, List.forall_mem_cons.mpr ⟨lw_p44, List.forall_mem_cons.mpr ⟨lw_p45, List.forall_mem_cons.mpr ⟨lw_p46, List.forall_mem_cons.mpr ⟨lw_p47, fun _ h => absurd h List.not_mem_nil⟩⟩⟩⟩⟩⟩⟩⟩⟩⟩⟩⟩⟩⟩⟩⟩
theorem lw_p48 : lw_okq (⟨"BoundTables$Overs", "isSame", "(IIII)Z"⟩, 7) := ⟨⟨by decide +kernel, by decide +kernel⟩, List.mem_of_getElem? (i := 126) (by decide +kernel), List.mem_of_getElem? (i := 745) (by decide +kernel), List.mem_of_getElem? (i := 746) (by decide +kernel)⟩
theorem lw_p49 : lw_okq (⟨"BoundTables$Overs", "addAny", "(I)V"⟩, 7) := ⟨⟨by decide +kernel, by decide +kernel⟩, List.mem_of_getElem? (i := 126) (by decide +kernel), List.mem_of_getElem? (i := 749) (by decide +kernel), List.mem_of_getElem? (i := 750) (by decide +kernel)⟩
theorem lw_p50 : lw_okq (⟨"BoundTables$Ways", "measure", "(LBoundTables$Table;)V"⟩, 4) := ⟨⟨by decide +kernel, by decide +kernel⟩, List.mem_of_getElem? (i := 74) (by decide +kernel), List.mem_of_getElem? (i := 753) (by decide +kernel), List.mem_of_getElem? (i := 754) (by decide +kernel)⟩
theorem lw_p51 : lw_okq (⟨"BoundTables$Ways", "addWays", "([IIII)V"⟩, 4) := ⟨⟨by decide +kernel, by decide +kernel⟩, List.mem_of_getElem? (i := 74) (by decide +kernel), List.mem_of_getElem? (i := 764) (by decide +kernel), List.mem_of_getElem? (i := 765) (by decide +kernel)⟩
theorem lw_p52 : lw_okq (⟨"BoundTables$Ways", "closeReach", "(I)V"⟩, 4) := ⟨⟨by decide +kernel, by decide +kernel⟩, List.mem_of_getElem? (i := 74) (by decide +kernel), List.mem_of_getElem? (i := 771) (by decide +kernel), List.mem_of_getElem? (i := 772) (by decide +kernel)⟩
theorem lw_p53 : lw_okq (⟨"BoundTables$Ways", "joinReach", "(III)V"⟩, 4) := ⟨⟨by decide +kernel, by decide +kernel⟩, List.mem_of_getElem? (i := 74) (by decide +kernel), List.mem_of_getElem? (i := 776) (by decide +kernel), List.mem_of_getElem? (i := 777) (by decide +kernel)⟩
theorem lw_p54 : lw_okq (⟨"BoundTables$Ways", "markRounds", "(I)V"⟩, 4) := ⟨⟨by decide +kernel, by decide +kernel⟩, List.mem_of_getElem? (i := 74) (by decide +kernel), List.mem_of_getElem? (i := 780) (by decide +kernel), List.mem_of_getElem? (i := 781) (by decide +kernel)⟩
theorem lw_p55 : lw_okq (⟨"BoundTables$Ways", "leads", "(II)Z"⟩, 4) := ⟨⟨by decide +kernel, by decide +kernel⟩, List.mem_of_getElem? (i := 74) (by decide +kernel), List.mem_of_getElem? (i := 784) (by decide +kernel), List.mem_of_getElem? (i := 785) (by decide +kernel)⟩
theorem lw_p56 : lw_okq (⟨"BoundTables$Ways", "markRound", "(II)V"⟩, 4) := ⟨⟨by decide +kernel, by decide +kernel⟩, List.mem_of_getElem? (i := 74) (by decide +kernel), List.mem_of_getElem? (i := 788) (by decide +kernel), List.mem_of_getElem? (i := 789) (by decide +kernel)⟩
theorem lw_p57 : lw_okq (⟨"BoundTables$Reader", "readPlace", "(LBoundTables$Table;)Z"⟩, 11) := ⟨⟨by decide +kernel, by decide +kernel⟩, List.mem_of_getElem? (i := 280) (by decide +kernel), List.mem_of_getElem? (i := 801) (by decide +kernel), List.mem_of_getElem? (i := 802) (by decide +kernel)⟩
theorem lw_p58 : lw_okq (⟨"BoundTables$Reader", "opening", "()Z"⟩, 11) := ⟨⟨by decide +kernel, by decide +kernel⟩, List.mem_of_getElem? (i := 280) (by decide +kernel), List.mem_of_getElem? (i := 805) (by decide +kernel), List.mem_of_getElem? (i := 806) (by decide +kernel)⟩
theorem lw_p59 : lw_okq (⟨"BoundTables$Asker", "nodeAbove", "(II)I"⟩, 15) := ⟨⟨by decide +kernel, by decide +kernel⟩, List.mem_of_getElem? (i := 327) (by decide +kernel), List.mem_of_getElem? (i := 810) (by decide +kernel), List.mem_of_getElem? (i := 811) (by decide +kernel)⟩
theorem lw_p60 : lw_okq (⟨"BoundTables$Types", "head", "(I)I"⟩, 9) := ⟨⟨by decide +kernel, by decide +kernel⟩, List.mem_of_getElem? (i := 333) (by decide +kernel), List.mem_of_getElem? (i := 814) (by decide +kernel), List.mem_of_getElem? (i := 815) (by decide +kernel)⟩
theorem lw_p61 : lw_okq (⟨"BoundTables$Asker", "captureArgs", "(II)Z"⟩, 15) := ⟨⟨by decide +kernel, by decide +kernel⟩, List.mem_of_getElem? (i := 327) (by decide +kernel), List.mem_of_getElem? (i := 820) (by decide +kernel), List.mem_of_getElem? (i := 821) (by decide +kernel)⟩
theorem lw_p62 : lw_okq (⟨"BoundTables$Types", "partsOf", "(I)I"⟩, 9) := ⟨⟨by decide +kernel, by decide +kernel⟩, List.mem_of_getElem? (i := 333) (by decide +kernel), List.mem_of_getElem? (i := 824) (by decide +kernel), List.mem_of_getElem? (i := 825) (by decide +kernel)⟩
theorem lw_p63 : lw_okq (⟨"BoundTables$Types", "part", "(II)I"⟩, 9) := ⟨⟨by decide +kernel, by decide +kernel⟩, List.mem_of_getElem? (i := 333) (by decide +kernel), List.mem_of_getElem? (i := 829) (by decide +kernel), List.mem_of_getElem? (i := 830) (by decide +kernel)⟩
def lw_privs_4 : List (MethodName × Nat) := [(⟨"BoundTables$Overs", "isSame", "(IIII)Z"⟩, 7), (⟨"BoundTables$Overs", "addAny", "(I)V"⟩, 7), (⟨"BoundTables$Ways", "measure", "(LBoundTables$Table;)V"⟩, 4), (⟨"BoundTables$Ways", "addWays", "([IIII)V"⟩, 4), (⟨"BoundTables$Ways", "closeReach", "(I)V"⟩, 4), (⟨"BoundTables$Ways", "joinReach", "(III)V"⟩, 4), (⟨"BoundTables$Ways", "markRounds", "(I)V"⟩, 4), (⟨"BoundTables$Ways", "leads", "(II)Z"⟩, 4), (⟨"BoundTables$Ways", "markRound", "(II)V"⟩, 4), (⟨"BoundTables$Reader", "readPlace", "(LBoundTables$Table;)Z"⟩, 11), (⟨"BoundTables$Reader", "opening", "()Z"⟩, 11), (⟨"BoundTables$Asker", "nodeAbove", "(II)I"⟩, 15), (⟨"BoundTables$Types", "head", "(I)I"⟩, 9), (⟨"BoundTables$Asker", "captureArgs", "(II)Z"⟩, 15), (⟨"BoundTables$Types", "partsOf", "(I)I"⟩, 9), (⟨"BoundTables$Types", "part", "(II)I"⟩, 9)]
theorem lw_r4 : ∀ q ∈ lw_privs_4, lw_okq q := List.forall_mem_cons.mpr ⟨lw_p48, List.forall_mem_cons.mpr ⟨lw_p49, List.forall_mem_cons.mpr ⟨lw_p50, List.forall_mem_cons.mpr ⟨lw_p51, List.forall_mem_cons.mpr ⟨lw_p52, List.forall_mem_cons.mpr ⟨lw_p53, List.forall_mem_cons.mpr ⟨lw_p54, List.forall_mem_cons.mpr ⟨lw_p55, List.forall_mem_cons.mpr ⟨lw_p56, List.forall_mem_cons.mpr ⟨lw_p57, List.forall_mem_cons.mpr ⟨lw_p58, List.forall_mem_cons.mpr ⟨lw_p59, List.forall_mem_cons.mpr ⟨lw_p60, List.forall_mem_cons.mpr ⟨lw_p61, List.forall_mem_cons.mpr ⟨lw_p62, List.forall_mem_cons.mpr ⟨lw_p63, fun _ h => absurd h List.not_mem_nil⟩⟩⟩⟩⟩⟩⟩⟩⟩⟩⟩⟩⟩⟩⟩⟩
theorem lw_p64 : lw_okq (⟨"BoundTables$Asker", "bind", "(III)Z"⟩, 15) := ⟨⟨by decide +kernel, by decide +kernel⟩, List.mem_of_getElem? (i := 327) (by decide +kernel), List.mem_of_getElem? (i := 836) (by decide +kernel), List.mem_of_getElem? (i := 837) (by decide +kernel)⟩
theorem lw_p65 : lw_okq (⟨"BoundTables$Asker", "addBound", "(II)V"⟩, 15) := ⟨⟨by decide +kernel, by decide +kernel⟩, List.mem_of_getElem? (i := 327) (by decide +kernel), List.mem_of_getElem? (i := 840) (by decide +kernel), List.mem_of_getElem? (i := 841) (by decide +kernel)⟩
theorem lw_p66 : lw_okq (⟨"BoundTables$Asker", "count", "(I)Z"⟩, 15) := ⟨⟨by decide +kernel, by decide +kernel⟩, List.mem_of_getElem? (i := 327) (by decide +kernel), List.mem_of_getElem? (i := 844) (by decide +kernel), List.mem_of_getElem? (i := 845) (by decide +kernel)⟩
theorem lw_p67 : lw_okq (⟨"BoundTables$Asker", "raise", "(III)I"⟩, 15) := ⟨⟨by decide +kernel, by decide +kernel⟩, List.mem_of_getElem? (i := 327) (by decide +kernel), List.mem_of_getElem? (i := 848) (by decide +kernel), List.mem_of_getElem? (i := 849) (by decide +kernel)⟩
theorem lw_p68 : lw_okq (⟨"BoundTables$Table", "overStart", "(II)I"⟩, 15) := ⟨⟨by decide +kernel, by decide +kernel⟩, List.mem_of_getElem? (i := 120) (by decide +kernel), List.mem_of_getElem? (i := 852) (by decide +kernel), List.mem_of_getElem? (i := 853) (by decide +kernel)⟩
theorem lw_p69 : lw_okq (⟨"BoundTables$Page", "writeType", "(LBoundTables$Types;LBoundTables$Table;I)I"⟩, 5) := ⟨⟨by decide +kernel, by decide +kernel⟩, List.mem_of_getElem? (i := 96) (by decide +kernel), List.mem_of_getElem? (i := 856) (by decide +kernel), List.mem_of_getElem? (i := 857) (by decide +kernel)⟩
theorem lw_p70 : lw_okq (⟨"BoundTables$Page", "openType", "(LBoundTables$Types;LBoundTables$Table;I)V"⟩, 5) := ⟨⟨by decide +kernel, by decide +kernel⟩, List.mem_of_getElem? (i := 96) (by decide +kernel), List.mem_of_getElem? (i := 860) (by decide +kernel), List.mem_of_getElem? (i := 861) (by decide +kernel)⟩
theorem lw_p71 : lw_okq (⟨"BoundTables$Page", "writeHead", "(LBoundTables$Table;I)V"⟩, 5) := ⟨⟨by decide +kernel, by decide +kernel⟩, List.mem_of_getElem? (i := 96) (by decide +kernel), List.mem_of_getElem? (i := 865) (by decide +kernel), List.mem_of_getElem? (i := 866) (by decide +kernel)⟩
theorem lw_p72 : lw_okq (⟨"BoundTables$Page", "write", "(I)V"⟩, 5) := ⟨⟨by decide +kernel, by decide +kernel⟩, List.mem_of_getElem? (i := 96) (by decide +kernel), List.mem_of_getElem? (i := 870) (by decide +kernel), List.mem_of_getElem? (i := 871) (by decide +kernel)⟩
theorem lw_p73 : lw_okq (⟨"BoundTables$Page", "writeNumber", "(I)V"⟩, 5) := ⟨⟨by decide +kernel, by decide +kernel⟩, List.mem_of_getElem? (i := 96) (by decide +kernel), List.mem_of_getElem? (i := 875) (by decide +kernel), List.mem_of_getElem? (i := 876) (by decide +kernel)⟩
theorem lw_p74 : lw_okq (⟨"BoundTables$Page", "writeName", "(J)V"⟩, 5) := ⟨⟨by decide +kernel, by decide +kernel⟩, List.mem_of_getElem? (i := 96) (by decide +kernel), List.mem_of_getElem? (i := 881) (by decide +kernel), List.mem_of_getElem? (i := 882) (by decide +kernel)⟩
theorem lw_p75 : lw_okq (⟨"java/lang/Throwable", "fillInStackTrace", "(I)Ljava/lang/Throwable;"⟩, 6) := ⟨⟨by decide +kernel, by decide +kernel⟩, List.mem_of_getElem? (i := 941) (by decide +kernel), List.mem_of_getElem? (i := 939) (by decide +kernel), List.mem_of_getElem? (i := 940) (by decide +kernel)⟩
theorem lw_p76 : lw_okq (⟨"BoundTables$Tape", "append", "(JI)V"⟩, 9) := ⟨⟨by decide +kernel, by decide +kernel⟩, List.mem_of_getElem? (i := 34) (by decide +kernel), List.mem_of_getElem? (i := 986) (by decide +kernel), List.mem_of_getElem? (i := 987) (by decide +kernel)⟩
theorem lw_p77 : lw_okq (⟨"BoundTables$Table", "countOver", "(I)I"⟩, 15) := ⟨⟨by decide +kernel, by decide +kernel⟩, List.mem_of_getElem? (i := 120) (by decide +kernel), List.mem_of_getElem? (i := 1017) (by decide +kernel), List.mem_of_getElem? (i := 1018) (by decide +kernel)⟩
theorem lw_p78 : lw_okq (⟨"BoundTables$Reader", "readQuestion", "(LBoundTables$Table;)Z"⟩, 11) := ⟨⟨by decide +kernel, by decide +kernel⟩, List.mem_of_getElem? (i := 280) (by decide +kernel), List.mem_of_getElem? (i := 1056) (by decide +kernel), List.mem_of_getElem? (i := 1057) (by decide +kernel)⟩
theorem lw_p79 : lw_okq (⟨"BoundTables$Asker", "below", "(III)I"⟩, 15) := ⟨⟨by decide +kernel, by decide +kernel⟩, List.mem_of_getElem? (i := 327) (by decide +kernel), List.mem_of_getElem? (i := 1060) (by decide +kernel), List.mem_of_getElem? (i := 1061) (by decide +kernel)⟩
def lw_privs_5 : List (MethodName × Nat) := [(⟨"BoundTables$Asker", "bind", "(III)Z"⟩, 15), (⟨"BoundTables$Asker", "addBound", "(II)V"⟩, 15), (⟨"BoundTables$Asker", "count", "(I)Z"⟩, 15), (⟨"BoundTables$Asker", "raise", "(III)I"⟩, 15), (⟨"BoundTables$Table", "overStart", "(II)I"⟩, 15), (⟨"BoundTables$Page", "writeType", "(LBoundTables$Types;LBoundTables$Table;I)I"⟩, 5), (⟨"BoundTables$Page", "openType", "(LBoundTables$Types;LBoundTables$Table;I)V"⟩, 5), (⟨"BoundTables$Page", "writeHead", "(LBoundTables$Table;I)V"⟩, 5), (⟨"BoundTables$Page", "write", "(I)V"⟩, 5), (⟨"BoundTables$Page", "writeNumber", "(I)V"⟩, 5), (⟨"BoundTables$Page", "writeName", "(J)V"⟩, 5), (⟨"java/lang/Throwable", "fillInStackTrace", "(I)Ljava/lang/Throwable;"⟩, 6), (⟨"BoundTables$Tape", "append", "(JI)V"⟩, 9), (⟨"BoundTables$Table", "countOver", "(I)I"⟩, 15), (⟨"BoundTables$Reader", "readQuestion", "(LBoundTables$Table;)Z"⟩, 11), (⟨"BoundTables$Asker", "below", "(III)I"⟩, 15)]
theorem lw_r5 : ∀ q ∈ lw_privs_5, lw_okq q := List.forall_mem_cons.mpr ⟨lw_p64, List.forall_mem_cons.mpr ⟨lw_p65, List.forall_mem_cons.mpr ⟨lw_p66, List.forall_mem_cons.mpr ⟨lw_p67, List.forall_mem_cons.mpr ⟨lw_p68, List.forall_mem_cons.mpr ⟨lw_p69, List.forall_mem_cons.mpr ⟨lw_p70, List.forall_mem_cons.mpr ⟨lw_p71, List.forall_mem_cons.mpr ⟨lw_p72, List.forall_mem_cons.mpr ⟨lw_p73, List.forall_mem_cons.mpr ⟨lw_p74, List.forall_mem_cons.mpr ⟨lw_p75, List.forall_mem_cons.mpr ⟨lw_p76, List.forall_mem_cons.mpr ⟨lw_p77, List.forall_mem_cons.mpr ⟨lw_p78, List.forall_mem_cons.mpr ⟨lw_p79, fun _ h => absurd h List.not_mem_nil⟩⟩⟩⟩⟩⟩⟩⟩⟩⟩⟩⟩⟩⟩⟩⟩
theorem lw_p80 : lw_okq (⟨"BoundTables$Asker", "floorOf", "(I)I"⟩, 15) := ⟨⟨by decide +kernel, by decide +kernel⟩, List.mem_of_getElem? (i := 327) (by decide +kernel), List.mem_of_getElem? (i := 1065) (by decide +kernel), List.mem_of_getElem? (i := 1066) (by decide +kernel)⟩
theorem lw_p81 : lw_okq (⟨"BoundTables$Asker", "boundsBelow", "(III)I"⟩, 15) := ⟨⟨by decide +kernel, by decide +kernel⟩, List.mem_of_getElem? (i := 327) (by decide +kernel), List.mem_of_getElem? (i := 1070) (by decide +kernel), List.mem_of_getElem? (i := 1071) (by decide +kernel)⟩
theorem lw_p82 : lw_okq (⟨"BoundTables$Asker", "boundOf", "(II)I"⟩, 15) := ⟨⟨by decide +kernel, by decide +kernel⟩, List.mem_of_getElem? (i := 327) (by decide +kernel), List.mem_of_getElem? (i := 1074) (by decide +kernel), List.mem_of_getElem? (i := 1075) (by decide +kernel)⟩
theorem lw_p83 : lw_okq (⟨"BoundTables$Asker", "boundOfNew", "(II)I"⟩, 15) := ⟨⟨by decide +kernel, by decide +kernel⟩, List.mem_of_getElem? (i := 327) (by decide +kernel), List.mem_of_getElem? (i := 1079) (by decide +kernel), List.mem_of_getElem? (i := 1080) (by decide +kernel)⟩
theorem lw_p84 : lw_okq (⟨"BoundTables$Asker", "classBelow", "(III)I"⟩, 15) := ⟨⟨by decide +kernel, by decide +kernel⟩, List.mem_of_getElem? (i := 327) (by decide +kernel), List.mem_of_getElem? (i := 1083) (by decide +kernel), List.mem_of_getElem? (i := 1084) (by decide +kernel)⟩
theorem lw_p85 : lw_okq (⟨"BoundTables$Asker", "argBelow", "(III)I"⟩, 15) := ⟨⟨by decide +kernel, by decide +kernel⟩, List.mem_of_getElem? (i := 327) (by decide +kernel), List.mem_of_getElem? (i := 1087) (by decide +kernel), List.mem_of_getElem? (i := 1088) (by decide +kernel)⟩
theorem lw_p86 : lw_okq (⟨"BoundTablesModel", "anew", "()V"⟩, 77) := ⟨⟨by decide +kernel, by decide +kernel⟩, List.mem_of_getElem? (i := 1116) (by decide +kernel), List.mem_of_getElem? (i := 1123) (by decide +kernel), List.mem_of_getElem? (i := 1124) (by decide +kernel)⟩
theorem lw_p87 : lw_okq (⟨"BoundTablesModel", "clearHeads", "()V"⟩, 77) := ⟨⟨by decide +kernel, by decide +kernel⟩, List.mem_of_getElem? (i := 1116) (by decide +kernel), List.mem_of_getElem? (i := 1128) (by decide +kernel), List.mem_of_getElem? (i := 1129) (by decide +kernel)⟩
theorem lw_p88 : lw_okq (⟨"BoundTablesModel", "make", "(III)I"⟩, 77) := ⟨⟨by decide +kernel, by decide +kernel⟩, List.mem_of_getElem? (i := 1116) (by decide +kernel), List.mem_of_getElem? (i := 1132) (by decide +kernel), List.mem_of_getElem? (i := 1133) (by decide +kernel)⟩
theorem lw_p89 : lw_okq (⟨"BoundTablesModel", "slotOf", "(III)I"⟩, 77) := ⟨⟨by decide +kernel, by decide +kernel⟩, List.mem_of_getElem? (i := 1116) (by decide +kernel), List.mem_of_getElem? (i := 1136) (by decide +kernel), List.mem_of_getElem? (i := 1137) (by decide +kernel)⟩
theorem lw_p90 : lw_okq (⟨"BoundTablesModel", "isLike", "(IIII)Z"⟩, 77) := ⟨⟨by decide +kernel, by decide +kernel⟩, List.mem_of_getElem? (i := 1116) (by decide +kernel), List.mem_of_getElem? (i := 1141) (by decide +kernel), List.mem_of_getElem? (i := 1142) (by decide +kernel)⟩
theorem lw_p91 : lw_okq (⟨"BoundTablesModel", "forgetAsked", "()V"⟩, 77) := ⟨⟨by decide +kernel, by decide +kernel⟩, List.mem_of_getElem? (i := 1116) (by decide +kernel), List.mem_of_getElem? (i := 1146) (by decide +kernel), List.mem_of_getElem? (i := 1147) (by decide +kernel)⟩
theorem lw_p92 : lw_okq (⟨"BoundTablesModel", "begin", "()V"⟩, 77) := ⟨⟨by decide +kernel, by decide +kernel⟩, List.mem_of_getElem? (i := 1116) (by decide +kernel), List.mem_of_getElem? (i := 1387) (by decide +kernel), List.mem_of_getElem? (i := 1388) (by decide +kernel)⟩
theorem lw_p93 : lw_okq (⟨"BoundTablesModel", "pass", "()V"⟩, 77) := ⟨⟨by decide +kernel, by decide +kernel⟩, List.mem_of_getElem? (i := 1116) (by decide +kernel), List.mem_of_getElem? (i := 1391) (by decide +kernel), List.mem_of_getElem? (i := 1392) (by decide +kernel)⟩
theorem lw_p94 : lw_okq (⟨"BoundTablesModel", "isPart", "(I)Z"⟩, 77) := ⟨⟨by decide +kernel, by decide +kernel⟩, List.mem_of_getElem? (i := 1116) (by decide +kernel), List.mem_of_getElem? (i := 1398) (by decide +kernel), List.mem_of_getElem? (i := 1399) (by decide +kernel)⟩
theorem lw_p95 : lw_okq (⟨"BoundTablesModel", "nameAt", "(II)J"⟩, 77) := ⟨⟨by decide +kernel, by decide +kernel⟩, List.mem_of_getElem? (i := 1116) (by decide +kernel), List.mem_of_getElem? (i := 1402) (by decide +kernel), List.mem_of_getElem? (i := 1403) (by decide +kernel)⟩
def lw_privs_6 : List (MethodName × Nat) := [(⟨"BoundTables$Asker", "floorOf", "(I)I"⟩, 15), (⟨"BoundTables$Asker", "boundsBelow", "(III)I"⟩, 15), (⟨"BoundTables$Asker", "boundOf", "(II)I"⟩, 15), (⟨"BoundTables$Asker", "boundOfNew", "(II)I"⟩, 15), (⟨"BoundTables$Asker", "classBelow", "(III)I"⟩, 15), (⟨"BoundTables$Asker", "argBelow", "(III)I"⟩, 15), (⟨"BoundTablesModel", "anew", "()V"⟩, 77), (⟨"BoundTablesModel", "clearHeads", "()V"⟩, 77), (⟨"BoundTablesModel", "make", "(III)I"⟩, 77), (⟨"BoundTablesModel", "slotOf", "(III)I"⟩, 77), (⟨"BoundTablesModel", "isLike", "(IIII)Z"⟩, 77), (⟨"BoundTablesModel", "forgetAsked", "()V"⟩, 77), (⟨"BoundTablesModel", "begin", "()V"⟩, 77), (⟨"BoundTablesModel", "pass", "()V"⟩, 77), (⟨"BoundTablesModel", "isPart", "(I)Z"⟩, 77), (⟨"BoundTablesModel", "nameAt", "(II)J"⟩, 77)]
theorem lw_r6 : ∀ q ∈ lw_privs_6, lw_okq q := List.forall_mem_cons.mpr ⟨lw_p80, List.forall_mem_cons.mpr ⟨lw_p81, List.forall_mem_cons.mpr ⟨lw_p82, List.forall_mem_cons.mpr ⟨lw_p83, List.forall_mem_cons.mpr ⟨lw_p84, List.forall_mem_cons.mpr ⟨lw_p85, List.forall_mem_cons.mpr ⟨lw_p86, List.forall_mem_cons.mpr ⟨lw_p87, List.forall_mem_cons.mpr ⟨lw_p88, List.forall_mem_cons.mpr ⟨lw_p89, List.forall_mem_cons.mpr ⟨lw_p90, List.forall_mem_cons.mpr ⟨lw_p91, List.forall_mem_cons.mpr ⟨lw_p92, List.forall_mem_cons.mpr ⟨lw_p93, List.forall_mem_cons.mpr ⟨lw_p94, List.forall_mem_cons.mpr ⟨lw_p95, fun _ h => absurd h List.not_mem_nil⟩⟩⟩⟩⟩⟩⟩⟩⟩⟩⟩⟩⟩⟩⟩⟩
theorem lw_p96 : lw_okq (⟨"BoundTablesModel", "readDecl", "()Z"⟩, 77) := ⟨⟨by decide +kernel, by decide +kernel⟩, List.mem_of_getElem? (i := 1116) (by decide +kernel), List.mem_of_getElem? (i := 1412) (by decide +kernel), List.mem_of_getElem? (i := 1413) (by decide +kernel)⟩
theorem lw_p97 : lw_okq (⟨"BoundTablesModel", "readHead", "(I)Z"⟩, 77) := ⟨⟨by decide +kernel, by decide +kernel⟩, List.mem_of_getElem? (i := 1116) (by decide +kernel), List.mem_of_getElem? (i := 1416) (by decide +kernel), List.mem_of_getElem? (i := 1417) (by decide +kernel)⟩
theorem lw_p98 : lw_okq (⟨"BoundTablesModel", "fail", "(I)Z"⟩, 77) := ⟨⟨by decide +kernel, by decide +kernel⟩, List.mem_of_getElem? (i := 1116) (by decide +kernel), List.mem_of_getElem? (i := 1420) (by decide +kernel), List.mem_of_getElem? (i := 1421) (by decide +kernel)⟩
theorem lw_p99 : lw_okq (⟨"BoundTablesModel", "name", "()J"⟩, 77) := ⟨⟨by decide +kernel, by decide +kernel⟩, List.mem_of_getElem? (i := 1116) (by decide +kernel), List.mem_of_getElem? (i := 1424) (by decide +kernel), List.mem_of_getElem? (i := 1425) (by decide +kernel)⟩
theorem lw_p100 : lw_okq (⟨"BoundTablesModel", "findClass", "(J)I"⟩, 77) := ⟨⟨by decide +kernel, by decide +kernel⟩, List.mem_of_getElem? (i := 1116) (by decide +kernel), List.mem_of_getElem? (i := 1428) (by decide +kernel), List.mem_of_getElem? (i := 1429) (by decide +kernel)⟩
theorem lw_p101 : lw_okq (⟨"BoundTablesModel", "findParam", "(IJ)I"⟩, 77) := ⟨⟨by decide +kernel, by decide +kernel⟩, List.mem_of_getElem? (i := 1116) (by decide +kernel), List.mem_of_getElem? (i := 1432) (by decide +kernel), List.mem_of_getElem? (i := 1433) (by decide +kernel)⟩
theorem lw_p102 : lw_okq (⟨"BoundTablesModel", "want", "(I)Z"⟩, 77) := ⟨⟨by decide +kernel, by decide +kernel⟩, List.mem_of_getElem? (i := 1116) (by decide +kernel), List.mem_of_getElem? (i := 1436) (by decide +kernel), List.mem_of_getElem? (i := 1437) (by decide +kernel)⟩
theorem lw_p103 : lw_okq (⟨"BoundTablesModel", "readBounds", "(I)Z"⟩, 77) := ⟨⟨by decide +kernel, by decide +kernel⟩, List.mem_of_getElem? (i := 1116) (by decide +kernel), List.mem_of_getElem? (i := 1440) (by decide +kernel), List.mem_of_getElem? (i := 1441) (by decide +kernel)⟩
theorem lw_p104 : lw_okq (⟨"BoundTablesModel", "readType", "(IIZ)I"⟩, 77) := ⟨⟨by decide +kernel, by decide +kernel⟩, List.mem_of_getElem? (i := 1116) (by decide +kernel), List.mem_of_getElem? (i := 1444) (by decide +kernel), List.mem_of_getElem? (i := 1445) (by decide +kernel)⟩
theorem lw_p105 : lw_okq (⟨"BoundTablesModel", "openType", "(IIIZ)Z"⟩, 77) := ⟨⟨by decide +kernel, by decide +kernel⟩, List.mem_of_getElem? (i := 1116) (by decide +kernel), List.mem_of_getElem? (i := 1448) (by decide +kernel), List.mem_of_getElem? (i := 1449) (by decide +kernel)⟩
theorem lw_p106 : lw_okq (⟨"BoundTablesModel", "isBefore", "(I)Z"⟩, 77) := ⟨⟨by decide +kernel, by decide +kernel⟩, List.mem_of_getElem? (i := 1116) (by decide +kernel), List.mem_of_getElem? (i := 1452) (by decide +kernel), List.mem_of_getElem? (i := 1453) (by decide +kernel)⟩
theorem lw_p107 : lw_okq (⟨"BoundTablesModel", "addArg", "(II)V"⟩, 77) := ⟨⟨by decide +kernel, by decide +kernel⟩, List.mem_of_getElem? (i := 1116) (by decide +kernel), List.mem_of_getElem? (i := 1456) (by decide +kernel), List.mem_of_getElem? (i := 1457) (by decide +kernel)⟩
theorem lw_p108 : lw_okq (⟨"BoundTablesModel", "mayStandBehind", "(II)Z"⟩, 77) := ⟨⟨by decide +kernel, by decide +kernel⟩, List.mem_of_getElem? (i := 1116) (by decide +kernel), List.mem_of_getElem? (i := 1460) (by decide +kernel), List.mem_of_getElem? (i := 1461) (by decide +kernel)⟩
theorem lw_p109 : lw_okq (⟨"BoundTablesModel", "closed", "(I)I"⟩, 77) := ⟨⟨by decide +kernel, by decide +kernel⟩, List.mem_of_getElem? (i := 1116) (by decide +kernel), List.mem_of_getElem? (i := 1464) (by decide +kernel), List.mem_of_getElem? (i := 1465) (by decide +kernel)⟩
theorem lw_p110 : lw_okq (⟨"BoundTablesModel", "readSupers", "(I)Z"⟩, 77) := ⟨⟨by decide +kernel, by decide +kernel⟩, List.mem_of_getElem? (i := 1116) (by decide +kernel), List.mem_of_getElem? (i := 1468) (by decide +kernel), List.mem_of_getElem? (i := 1469) (by decide +kernel)⟩
theorem lw_p111 : lw_okq (⟨"BoundTablesModel", "findAbove", "(I)Z"⟩, 77) := ⟨⟨by decide +kernel, by decide +kernel⟩, List.mem_of_getElem? (i := 1116) (by decide +kernel), List.mem_of_getElem? (i := 1472) (by decide +kernel), List.mem_of_getElem? (i := 1473) (by decide +kernel)⟩
def lw_privs_7 : List (MethodName × Nat) := [(⟨"BoundTablesModel", "readDecl", "()Z"⟩, 77), (⟨"BoundTablesModel", "readHead", "(I)Z"⟩, 77), (⟨"BoundTablesModel", "fail", "(I)Z"⟩, 77), (⟨"BoundTablesModel", "name", "()J"⟩, 77), (⟨"BoundTablesModel", "findClass", "(J)I"⟩, 77), (⟨"BoundTablesModel", "findParam", "(IJ)I"⟩, 77), (⟨"BoundTablesModel", "want", "(I)Z"⟩, 77), (⟨"BoundTablesModel", "readBounds", "(I)Z"⟩, 77), (⟨"BoundTablesModel", "readType", "(IIZ)I"⟩, 77), (⟨"BoundTablesModel", "openType", "(IIIZ)Z"⟩, 77), (⟨"BoundTablesModel", "isBefore", "(I)Z"⟩, 77), (⟨"BoundTablesModel", "addArg", "(II)V"⟩, 77), (⟨"BoundTablesModel", "mayStandBehind", "(II)Z"⟩, 77), (⟨"BoundTablesModel", "closed", "(I)I"⟩, 77), (⟨"BoundTablesModel", "readSupers", "(I)Z"⟩, 77), (⟨"BoundTablesModel", "findAbove", "(I)Z"⟩, 77)]
theorem lw_r7 : ∀ q ∈ lw_privs_7, lw_okq q := List.forall_mem_cons.mpr ⟨lw_p96, List.forall_mem_cons.mpr ⟨lw_p97, List.forall_mem_cons.mpr ⟨lw_p98, List.forall_mem_cons.mpr ⟨lw_p99, List.forall_mem_cons.mpr ⟨lw_p100, List.forall_mem_cons.mpr ⟨lw_p101, List.forall_mem_cons.mpr ⟨lw_p102, List.forall_mem_cons.mpr ⟨lw_p103, List.forall_mem_cons.mpr ⟨lw_p104, List.forall_mem_cons.mpr ⟨lw_p105, List.forall_mem_cons.mpr ⟨lw_p106, List.forall_mem_cons.mpr ⟨lw_p107, List.forall_mem_cons.mpr ⟨lw_p108, List.forall_mem_cons.mpr ⟨lw_p109, List.forall_mem_cons.mpr ⟨lw_p110, List.forall_mem_cons.mpr ⟨lw_p111, fun _ h => absurd h List.not_mem_nil⟩⟩⟩⟩⟩⟩⟩⟩⟩⟩⟩⟩⟩⟩⟩⟩
theorem lw_p112 : lw_okq (⟨"BoundTablesModel", "substitute", "(IIII)I"⟩, 77) := ⟨⟨by decide +kernel, by decide +kernel⟩, List.mem_of_getElem? (i := 1116) (by decide +kernel), List.mem_of_getElem? (i := 1476) (by decide +kernel), List.mem_of_getElem? (i := 1477) (by decide +kernel)⟩
theorem lw_p113 : lw_okq (⟨"BoundTablesModel", "substituted", "(IIII)I"⟩, 77) := ⟨⟨by decide +kernel, by decide +kernel⟩, List.mem_of_getElem? (i := 1116) (by decide +kernel), List.mem_of_getElem? (i := 1480) (by decide +kernel), List.mem_of_getElem? (i := 1481) (by decide +kernel)⟩
theorem lw_p114 : lw_okq (⟨"BoundTablesModel", "chainAgain", "(II)V"⟩, 77) := ⟨⟨by decide +kernel, by decide +kernel⟩, List.mem_of_getElem? (i := 1116) (by decide +kernel), List.mem_of_getElem? (i := 1484) (by decide +kernel), List.mem_of_getElem? (i := 1485) (by decide +kernel)⟩
theorem lw_p115 : lw_okq (⟨"BoundTablesModel", "commit", "(I)V"⟩, 77) := ⟨⟨by decide +kernel, by decide +kernel⟩, List.mem_of_getElem? (i := 1116) (by decide +kernel), List.mem_of_getElem? (i := 1488) (by decide +kernel), List.mem_of_getElem? (i := 1489) (by decide +kernel)⟩
theorem lw_p116 : lw_okq (⟨"BoundTablesModel", "down", "(II)I"⟩, 77) := ⟨⟨by decide +kernel, by decide +kernel⟩, List.mem_of_getElem? (i := 1116) (by decide +kernel), List.mem_of_getElem? (i := 1492) (by decide +kernel), List.mem_of_getElem? (i := 1493) (by decide +kernel)⟩
theorem lw_p117 : lw_okq (⟨"BoundTablesModel", "findWays", "()V"⟩, 77) := ⟨⟨by decide +kernel, by decide +kernel⟩, List.mem_of_getElem? (i := 1116) (by decide +kernel), List.mem_of_getElem? (i := 1496) (by decide +kernel), List.mem_of_getElem? (i := 1497) (by decide +kernel)⟩
theorem lw_p118 : lw_okq (⟨"BoundTablesModel", "waysOf", "(I)V"⟩, 77) := ⟨⟨by decide +kernel, by decide +kernel⟩, List.mem_of_getElem? (i := 1116) (by decide +kernel), List.mem_of_getElem? (i := 1500) (by decide +kernel), List.mem_of_getElem? (i := 1501) (by decide +kernel)⟩
theorem lw_p119 : lw_okq (⟨"BoundTablesModel", "addWays", "(II)V"⟩, 77) := ⟨⟨by decide +kernel, by decide +kernel⟩, List.mem_of_getElem? (i := 1116) (by decide +kernel), List.mem_of_getElem? (i := 1504) (by decide +kernel), List.mem_of_getElem? (i := 1505) (by decide +kernel)⟩
theorem lw_p120 : lw_okq (⟨"BoundTablesModel", "isOnGrowing", "(I)Z"⟩, 77) := ⟨⟨by decide +kernel, by decide +kernel⟩, List.mem_of_getElem? (i := 1116) (by decide +kernel), List.mem_of_getElem? (i := 1508) (by decide +kernel), List.mem_of_getElem? (i := 1509) (by decide +kernel)⟩
theorem lw_p121 : lw_okq (⟨"BoundTablesModel", "readTwice", "(Z)Z"⟩, 77) := ⟨⟨by decide +kernel, by decide +kernel⟩, List.mem_of_getElem? (i := 1116) (by decide +kernel), List.mem_of_getElem? (i := 1516) (by decide +kernel), List.mem_of_getElem? (i := 1517) (by decide +kernel)⟩
theorem lw_p122 : lw_okq (⟨"BoundTablesModel", "readQuestion", "()Z"⟩, 77) := ⟨⟨by decide +kernel, by decide +kernel⟩, List.mem_of_getElem? (i := 1116) (by decide +kernel), List.mem_of_getElem? (i := 1520) (by decide +kernel), List.mem_of_getElem? (i := 1521) (by decide +kernel)⟩
theorem lw_p123 : lw_okq (⟨"BoundTablesModel", "readIn", "()Z"⟩, 77) := ⟨⟨by decide +kernel, by decide +kernel⟩, List.mem_of_getElem? (i := 1116) (by decide +kernel), List.mem_of_getElem? (i := 1524) (by decide +kernel), List.mem_of_getElem? (i := 1525) (by decide +kernel)⟩
theorem lw_p124 : lw_okq (⟨"BoundTablesModel", "readPlace", "()Z"⟩, 77) := ⟨⟨by decide +kernel, by decide +kernel⟩, List.mem_of_getElem? (i := 1116) (by decide +kernel), List.mem_of_getElem? (i := 1528) (by decide +kernel), List.mem_of_getElem? (i := 1529) (by decide +kernel)⟩
theorem lw_p125 : lw_okq (⟨"BoundTablesModel", "questions", "(III)I"⟩, 77) := ⟨⟨by decide +kernel, by decide +kernel⟩, List.mem_of_getElem? (i := 1116) (by decide +kernel), List.mem_of_getElem? (i := 1532) (by decide +kernel), List.mem_of_getElem? (i := 1533) (by decide +kernel)⟩
theorem lw_p126 : lw_okq (⟨"BoundTablesModel", "ask2", "(II)Z"⟩, 77) := ⟨⟨by decide +kernel, by decide +kernel⟩, List.mem_of_getElem? (i := 1116) (by decide +kernel), List.mem_of_getElem? (i := 1536) (by decide +kernel), List.mem_of_getElem? (i := 1537) (by decide +kernel)⟩
theorem lw_p127 : lw_okq (⟨"BoundTablesModel", "opened", "(I)I"⟩, 77) := ⟨⟨by decide +kernel, by decide +kernel⟩, List.mem_of_getElem? (i := 1116) (by decide +kernel), List.mem_of_getElem? (i := 1540) (by decide +kernel), List.mem_of_getElem? (i := 1541) (by decide +kernel)⟩
def lw_privs_8 : List (MethodName × Nat) := [(⟨"BoundTablesModel", "substitute", "(IIII)I"⟩, 77), (⟨"BoundTablesModel", "substituted", "(IIII)I"⟩, 77), (⟨"BoundTablesModel", "chainAgain", "(II)V"⟩, 77), (⟨"BoundTablesModel", "commit", "(I)V"⟩, 77), (⟨"BoundTablesModel", "down", "(II)I"⟩, 77), (⟨"BoundTablesModel", "findWays", "()V"⟩, 77), (⟨"BoundTablesModel", "waysOf", "(I)V"⟩, 77), (⟨"BoundTablesModel", "addWays", "(II)V"⟩, 77), (⟨"BoundTablesModel", "isOnGrowing", "(I)Z"⟩, 77), (⟨"BoundTablesModel", "readTwice", "(Z)Z"⟩, 77), (⟨"BoundTablesModel", "readQuestion", "()Z"⟩, 77), (⟨"BoundTablesModel", "readIn", "()Z"⟩, 77), (⟨"BoundTablesModel", "readPlace", "()Z"⟩, 77), (⟨"BoundTablesModel", "questions", "(III)I"⟩, 77), (⟨"BoundTablesModel", "ask2", "(II)Z"⟩, 77), (⟨"BoundTablesModel", "opened", "(I)I"⟩, 77)]
theorem lw_r8 : ∀ q ∈ lw_privs_8, lw_okq q := List.forall_mem_cons.mpr ⟨lw_p112, List.forall_mem_cons.mpr ⟨lw_p113, List.forall_mem_cons.mpr ⟨lw_p114, List.forall_mem_cons.mpr ⟨lw_p115, List.forall_mem_cons.mpr ⟨lw_p116, List.forall_mem_cons.mpr ⟨lw_p117, List.forall_mem_cons.mpr ⟨lw_p118, List.forall_mem_cons.mpr ⟨lw_p119, List.forall_mem_cons.mpr ⟨lw_p120, List.forall_mem_cons.mpr ⟨lw_p121, List.forall_mem_cons.mpr ⟨lw_p122, List.forall_mem_cons.mpr ⟨lw_p123, List.forall_mem_cons.mpr ⟨lw_p124, List.forall_mem_cons.mpr ⟨lw_p125, List.forall_mem_cons.mpr ⟨lw_p126, List.forall_mem_cons.mpr ⟨lw_p127, fun _ h => absurd h List.not_mem_nil⟩⟩⟩⟩⟩⟩⟩⟩⟩⟩⟩⟩⟩⟩⟩⟩
theorem lw_p128 : lw_okq (⟨"BoundTablesModel", "behindFloor", "(I)I"⟩, 77) := ⟨⟨by decide +kernel, by decide +kernel⟩, List.mem_of_getElem? (i := 1116) (by decide +kernel), List.mem_of_getElem? (i := 1544) (by decide +kernel), List.mem_of_getElem? (i := 1545) (by decide +kernel)⟩
theorem lw_p129 : lw_okq (⟨"BoundTablesModel", "isVariable", "(I)Z"⟩, 77) := ⟨⟨by decide +kernel, by decide +kernel⟩, List.mem_of_getElem? (i := 1116) (by decide +kernel), List.mem_of_getElem? (i := 1548) (by decide +kernel), List.mem_of_getElem? (i := 1549) (by decide +kernel)⟩
theorem lw_p130 : lw_okq (⟨"BoundTablesModel", "boundOf", "(II)I"⟩, 77) := ⟨⟨by decide +kernel, by decide +kernel⟩, List.mem_of_getElem? (i := 1116) (by decide +kernel), List.mem_of_getElem? (i := 1552) (by decide +kernel), List.mem_of_getElem? (i := 1553) (by decide +kernel)⟩
theorem lw_p131 : lw_okq (⟨"BoundTablesModel", "captured", "(I)I"⟩, 77) := ⟨⟨by decide +kernel, by decide +kernel⟩, List.mem_of_getElem? (i := 1116) (by decide +kernel), List.mem_of_getElem? (i := 1556) (by decide +kernel), List.mem_of_getElem? (i := 1557) (by decide +kernel)⟩
theorem lw_p132 : lw_okq (⟨"BoundTablesModel", "bind", "(IIIII)Z"⟩, 77) := ⟨⟨by decide +kernel, by decide +kernel⟩, List.mem_of_getElem? (i := 1116) (by decide +kernel), List.mem_of_getElem? (i := 1560) (by decide +kernel), List.mem_of_getElem? (i := 1561) (by decide +kernel)⟩
theorem lw_p133 : lw_okq (⟨"BoundTablesModel", "aboveOf", "(II)I"⟩, 77) := ⟨⟨by decide +kernel, by decide +kernel⟩, List.mem_of_getElem? (i := 1116) (by decide +kernel), List.mem_of_getElem? (i := 1564) (by decide +kernel), List.mem_of_getElem? (i := 1565) (by decide +kernel)⟩
theorem lw_p134 : lw_okq (⟨"BoundTablesModel", "pairs", "(I)I"⟩, 77) := ⟨⟨by decide +kernel, by decide +kernel⟩, List.mem_of_getElem? (i := 1116) (by decide +kernel), List.mem_of_getElem? (i := 1568) (by decide +kernel), List.mem_of_getElem? (i := 1569) (by decide +kernel)⟩
theorem lw_p135 : lw_okq (⟨"BoundTablesModel", "resumed", "(II)I"⟩, 77) := ⟨⟨by decide +kernel, by decide +kernel⟩, List.mem_of_getElem? (i := 1116) (by decide +kernel), List.mem_of_getElem? (i := 1572) (by decide +kernel), List.mem_of_getElem? (i := 1573) (by decide +kernel)⟩
theorem lw_p136 : lw_okq (⟨"BoundTablesModel", "boundsOf", "(I)I"⟩, 77) := ⟨⟨by decide +kernel, by decide +kernel⟩, List.mem_of_getElem? (i := 1116) (by decide +kernel), List.mem_of_getElem? (i := 1576) (by decide +kernel), List.mem_of_getElem? (i := 1577) (by decide +kernel)⟩
theorem lw_p137 : lw_okq (⟨"BoundTablesModel", "write", "(I)V"⟩, 77) := ⟨⟨by decide +kernel, by decide +kernel⟩, List.mem_of_getElem? (i := 1116) (by decide +kernel), List.mem_of_getElem? (i := 1584) (by decide +kernel), List.mem_of_getElem? (i := 1585) (by decide +kernel)⟩
theorem lw_p138 : lw_okq (⟨"BoundTablesModel", "head", "(I)V"⟩, 77) := ⟨⟨by decide +kernel, by decide +kernel⟩, List.mem_of_getElem? (i := 1116) (by decide +kernel), List.mem_of_getElem? (i := 1588) (by decide +kernel), List.mem_of_getElem? (i := 1589) (by decide +kernel)⟩
theorem lw_p139 : lw_okq (⟨"BoundTablesModel", "signs", "(J)V"⟩, 77) := ⟨⟨by decide +kernel, by decide +kernel⟩, List.mem_of_getElem? (i := 1116) (by decide +kernel), List.mem_of_getElem? (i := 1592) (by decide +kernel), List.mem_of_getElem? (i := 1593) (by decide +kernel)⟩
theorem lw_p140 : lw_okq (⟨"BoundTablesModel", "sign", "(I)V"⟩, 77) := ⟨⟨by decide +kernel, by decide +kernel⟩, List.mem_of_getElem? (i := 1116) (by decide +kernel), List.mem_of_getElem? (i := 1596) (by decide +kernel), List.mem_of_getElem? (i := 1597) (by decide +kernel)⟩
theorem lw_p141 : lw_okq (⟨"BoundTablesModel", "isClass", "(I)Z"⟩, 77) := ⟨⟨by decide +kernel, by decide +kernel⟩, List.mem_of_getElem? (i := 1116) (by decide +kernel), List.mem_of_getElem? (i := 1620) (by decide +kernel), List.mem_of_getElem? (i := 1621) (by decide +kernel)⟩
theorem lw_p142 : lw_okq (⟨"BoundTablesModel", "isOver", "(II)Z"⟩, 77) := ⟨⟨by decide +kernel, by decide +kernel⟩, List.mem_of_getElem? (i := 1116) (by decide +kernel), List.mem_of_getElem? (i := 1624) (by decide +kernel), List.mem_of_getElem? (i := 1625) (by decide +kernel)⟩
theorem lw_p143 : lw_okq (⟨"BoundTablesModel", "isParam", "(I)Z"⟩, 77) := ⟨⟨by decide +kernel, by decide +kernel⟩, List.mem_of_getElem? (i := 1116) (by decide +kernel), List.mem_of_getElem? (i := 1637) (by decide +kernel), List.mem_of_getElem? (i := 1638) (by decide +kernel)⟩
def lw_privs_9 : List (MethodName × Nat) := [(⟨"BoundTablesModel", "behindFloor", "(I)I"⟩, 77), (⟨"BoundTablesModel", "isVariable", "(I)Z"⟩, 77), (⟨"BoundTablesModel", "boundOf", "(II)I"⟩, 77), (⟨"BoundTablesModel", "captured", "(I)I"⟩, 77), (⟨"BoundTablesModel", "bind", "(IIIII)Z"⟩, 77), (⟨"BoundTablesModel", "aboveOf", "(II)I"⟩, 77), (⟨"BoundTablesModel", "pairs", "(I)I"⟩, 77), (⟨"BoundTablesModel", "resumed", "(II)I"⟩, 77), (⟨"BoundTablesModel", "boundsOf", "(I)I"⟩, 77), (⟨"BoundTablesModel", "write", "(I)V"⟩, 77), (⟨"BoundTablesModel", "head", "(I)V"⟩, 77), (⟨"BoundTablesModel", "signs", "(J)V"⟩, 77), (⟨"BoundTablesModel", "sign", "(I)V"⟩, 77), (⟨"BoundTablesModel", "isClass", "(I)Z"⟩, 77), (⟨"BoundTablesModel", "isOver", "(II)Z"⟩, 77), (⟨"BoundTablesModel", "isParam", "(I)Z"⟩, 77)]
theorem lw_r9 : ∀ q ∈ lw_privs_9, lw_okq q := List.forall_mem_cons.mpr ⟨lw_p128, List.forall_mem_cons.mpr ⟨lw_p129, List.forall_mem_cons.mpr ⟨lw_p130, List.forall_mem_cons.mpr ⟨lw_p131, List.forall_mem_cons.mpr ⟨lw_p132, List.forall_mem_cons.mpr ⟨lw_p133, List.forall_mem_cons.mpr ⟨lw_p134, List.forall_mem_cons.mpr ⟨lw_p135, List.forall_mem_cons.mpr ⟨lw_p136, List.forall_mem_cons.mpr ⟨lw_p137, List.forall_mem_cons.mpr ⟨lw_p138, List.forall_mem_cons.mpr ⟨lw_p139, List.forall_mem_cons.mpr ⟨lw_p140, List.forall_mem_cons.mpr ⟨lw_p141, List.forall_mem_cons.mpr ⟨lw_p142, List.forall_mem_cons.mpr ⟨lw_p143, fun _ h => absurd h List.not_mem_nil⟩⟩⟩⟩⟩⟩⟩⟩⟩⟩⟩⟩⟩⟩⟩⟩
def lw_privs : List (MethodName × Nat) := lw_privs_1 ++ (lw_privs_2 ++ (lw_privs_3 ++ (lw_privs_4 ++ (lw_privs_5 ++ (lw_privs_6 ++ (lw_privs_7 ++ (lw_privs_8 ++ (lw_privs_9))))))))
def lw_tbl : List Cond := k2_sels lw_privs ++ tables_1
theorem lw_privs_ok : ∀ q ∈ lw_privs, lw_okq q := by
  show ∀ q ∈ lw_privs_1 ++ (lw_privs_2 ++ (lw_privs_3 ++ (lw_privs_4 ++ (lw_privs_5 ++ (lw_privs_6 ++ (lw_privs_7 ++ (lw_privs_8 ++ (lw_privs_9)))))))), lw_okq q
  exact List.forall_mem_append.mpr ⟨lw_r1, List.forall_mem_append.mpr ⟨lw_r2, List.forall_mem_append.mpr ⟨lw_r3, List.forall_mem_append.mpr ⟨lw_r4, List.forall_mem_append.mpr ⟨lw_r5, List.forall_mem_append.mpr ⟨lw_r6, List.forall_mem_append.mpr ⟨lw_r7, List.forall_mem_append.mpr ⟨lw_r8, lw_r9⟩⟩⟩⟩⟩⟩⟩⟩
-- ===== end of PART A; then your names; then what follows =====
end
section
/-! ===== BEGIN words of one list among another's, by their places ===== -/
theorem goodIn_r {big : List Cond} (ws : List Cond) (ps : List Nat) (hp : ws = ps.filterMap (fun i => big[i]?)) (h : ws.all goodWord = true) : GoodIn big ws := by
  intro w hw
  have h1 := List.all_eq_true.mp h w hw
  rw [hp] at hw
  obtain ⟨i, -, hi⟩ := List.mem_filterMap.mp hw
  have hm : w ∈ big := by first | exact List.mem_of_getElem? hi | exact List.getElem?_mem hi
  exact ⟨hm, good_of_word h1⟩
theorem goodIn_app {big a b : List Cond} (ha : GoodIn big a) (hb : GoodIn big b) : GoodIn big (a ++ b) := fun w h => (List.mem_append.mp h).elim (ha w) (hb w)
theorem goodIn_ca {big a b : List Cond} {c : Cond} (ha : GoodIn big (c :: a)) (hb : GoodIn big b) : GoodIn big (c :: (a ++ b)) := fun w h => (List.mem_cons.mp h).elim (fun e => ha w (List.mem_cons.mpr (Or.inl e))) (fun h => (List.mem_append.mp h).elim (fun h => ha w (List.mem_cons.mpr (Or.inr h))) (hb w))
theorem goodIn_sub {big ws : List Cond} (hm : ∀ w ∈ ws, w ∈ big) (h : ws.all goodWord = true) : GoodIn big ws := fun w hw => ⟨hm w hw, good_of_word (List.all_eq_true.mp h w hw)⟩
/-! ===== END ===== -/

/-! ===== BEGIN exceptions that leave a method, and their catching by the caller (launches without stack traces) ===== -/
section VXA
/-! The laws vx_back, vx_callV, vx_callS, vx_callSW, vx_throw0, vx_throwS follow proofs of the library, with one case more: JvmDerived/Free/Laws.lean (Back.of_free), Shelf42/LK1.lean (callV, callS), Shelf/KitTraced.lean (throwNew0V, throwNewS). -/
/-- where a method has thrown q: the class by its name, the cell, what was written, the world -/
def vx_T (XC : String → State → State → Prop) (st : State) (q : Addr) (t : State) (mc ms : Nat) (free : Addr → Prop) : Prop :=
  ∃ (E : String) (ce : Cell) (L : List Loc), XC E st t ∧ t.heap[q]? = some ce ∧ ce.vm = .none ∧ st.vm.findClass E = some ce.cls ∧ st.WarmedH t.vm ∧ st.sameButNew ({ t with vm := st.vm } : State) L mc ms ∧ ∀ z ∈ L, free z.base
def vx_Q (Qc : Array Value → State → Outcome → State → Prop) (XC : String → State → State → Prop) (mc ms : Nat) (free : Addr → Prop) : Array Value → State → Outcome → State → Prop := fun a st o t =>
  (Qc a st o t ∧ ∃ L, FrameEnd st o t L mc ms ∧ ∀ q ∈ L, free q.base) ∨ ∃ q, o = .threw q ∧ vx_T XC st q t mc ms free
/-- a callee that returns or throws -/
def vx_Met (l : Launch) (y : MethodName) (ws : List Cond) (rm : Room) (Pc : Array Value → State → Prop) (Qc : Array Value → State → Outcome → State → Prop) (XC : String → State → State → Prop) (mc ms : Nat) (free : Addr → Prop) : Prop :=
  MetFree l y (headSpec ws rm) Pc (fun _ _ _ _ _ => True) (vx_Q Qc XC mc ms free)
def vx_Post (XC : String → State → State → Prop) (mc ms : Nat) (free : Addr → Prop) : Pt → Array Value → Addr → Pt → Prop := fun A a q B =>
  ∃ (g : JFrame) (mk : MethodId) (t : State) (L : List Loc) (E : String) (ce : Cell), B.U.heap = t.heap ∧ B.U.vm = t.vm ∧ XC E (A.U.calling g mk a) t ∧ t.heap[q]? = some ce ∧ ce.vm = .none ∧ A.U.vm.findClass E = some ce.cls ∧ B.locs = A.locs ++ L ∧ (∀ z ∈ L, free z.base) ∧ B.cells = A.cells + mc ∧ B.slots = A.slots + ms
def vx_Back (l : Launch) (R : Room) (p : Program) (e : Env) (below : List Frame) (s : State) (sargs : Array Value) (y : MethodName) (len W9 : Nat)
    (Pre : Pt → Array Value → Prop) (Post : Pt → Array Value → Option Value → Pt → Prop) (PostX : Pt → Array Value → Addr → Pt → Prop) : Prop :=
  ∀ (m : MethodId) (meth : Method) (c : Code) (A : Pt) (g : JFrame) (ig : Instr) (mk : MethodId) (a : Array Value),
    Stand p l e R s m sargs below meth c A.U A.locs A.cells A.slots → g.method = m → g.locals.size = c.maxLocals → decode c.code g.pc = .ok (ig, len) →
    2 * g.monitorRoom + (g.stack.map fun v => v.category).sum ≤ W9 → A.U.methodNamed? y = some mk → Pre A a →
    (∃ (v : Option Value) (B : Pt), Stand p l e R s m sargs below meth c B.U B.locs B.cells B.slots ∧ Post A a v B ∧
      Steps p.tables e below (doInvoke e (A.U.setTop g) [] mk a).1 (B.U.setTop { g with pc := g.pc + len, stack := v.toList ++ g.stack })) ∨
    (∃ (q : Addr) (B : Pt), Stand p l e R s m sargs below meth c B.U B.locs B.cells B.slots ∧ PostX A a q B ∧
      Steps p.tables e below (doInvoke e (A.U.setTop g) [] mk a).1 ((B.U.setTop g).pushFrame (.throwing q)))
section Payer
variable {l : Launch} {R : Room} {p : Program} {e : Env} {below : List Frame} {s : State} {sargs : Array Value} {y : MethodName} {len W9 : Nat}
theorem vx_back {ws : List Cond} {rm : Room} {Pc : Array Value → State → Prop} {Qc : Array Value → State → Outcome → State → Prop} {XC : String → State → State → Prop} {mc ms : Nat} {free : Addr → Prop} {bytes : ByteArray} {maxL : Nat} {ret : Option FieldType}
    (hM : vx_Met l y ws rm Pc Qc XC mc ms free) (hblind : FrameBlind Pc) (hrc : rm.cells = mc) (hrs : rm.slots = ms)
    (hframes : rm.frames + 1 ≤ R.frames) (hlocals : W9 + (maxL + 11) + rm.locals ≤ R.locals)
    (hws : ∀ w ∈ ws, ∀ a' U, s.WarmedH U.vm → w.before a' U = true) (hcode : Cond.code y bytes maxL ret ∈ ws) (hinit : ∀ a' U, s.WarmedH U.vm → (Cond.initialized y.cls).before a' U = true) :
    vx_Back l R p e below s sargs y len W9 (PreOf R mc ms Pc) (PostOf Qc mc ms free) (vx_Post XC mc ms free) := by
  intro m meth c A g ig mk a X hg hsize hdg hW hn hp
  have h1 : (headSpec ws rm).pre.before a A.U = true := atoms_intro fun w hw => hws w hw _ _ X.warmed
  have h2 : (Cond.code y bytes maxL ret).before a A.U = true := hws _ hcode _ _ X.warmed
  have h3 : (Cond.initialized y.cls).before a A.U = true := hinit _ _ X.warmed
  have h4 : A.cells + (headSpec ws rm).room.cells ≤ R.cells := by rw [show (headSpec ws rm).room.cells = mc from hrc]; exact hp.1
  have h5 : A.slots + (headSpec ws rm).room.slots ≤ R.slots := by rw [show (headSpec ws rm).room.slots = ms from hrs]; exact hp.2.1
  have hPc : Pc a (A.U.calling g mk a) := hblind _ _ _ _ hp.2.2
  obtain ⟨U, Ls, c0, s0⟩ := A
  dsimp only [Pt.U, Pt.locs, Pt.cells, Pt.slots] at h1 h2 h3 h4 h5 X hn hPc ⊢
  obtain ⟨methY, cY, hmY, hcY, -, hlY, -, -, -, -⟩ := Cond.code_spec hn h2
  obtain ⟨kY, hkY, -⟩ := className_of_methodNamed hn
  have hinitY : kY.init = .initialized := Cond.initialized_spec (findClass_of_methodNamed hn) hkY h3
  have h : At U g.method c below := by rw [hg]; exact X.here
  have hlocals9 : W9 + (maxL + 11) + (headSpec ws rm).room.locals ≤ R.locals := hlocals
  have happ : (headSpec ws rm).appliesLoose y e.platform (U.calling g mk a) = true :=
    Spec.appliesLoose_calling (g := g) h hdg hn hkY hinitY
      (X.room_calling (g := g) (R' := (headSpec ws rm).room) hsize hmY hcY hframes (by rw [hlY]; omega) h4 h5) h1
  obtain ⟨mid, hmid⟩ := h.above
  have hfr : (U.setTop g).frames = (.java g :: mid) ++ below := by rw [State.frames_setTop' g h.top, hmid]; rfl
  obtain ⟨o, s₂, hsteps, -, hend, hq⟩ := Steps.callFree hM p X.admits X.cas X.clock (acts := []) hfr happ hPc trivial
  have hq' : vx_Q Qc XC mc ms free a (U.calling g mk a) o s₂ := hq
  rw [State.frames_setTop' g h.top] at hend
  obtain ⟨g₀, hg0⟩ := Option.isSome_iff_exists.mp h.top
  obtain ⟨r, hr⟩ := State.topJava?_eq_some.mp hg0
  have hr' : (({ U with heap := s₂.heap, slotsUsed := s₂.slotsUsed } : State).setVm s₂.vm).frames = .java g₀ :: r := hr
  rcases hq' with ⟨hqc, L, hfe, hL⟩ | ⟨q, rfl, E, ce, L, hx, hce, hcv, hcl, hW₂, hsm, hL⟩
  · obtain ⟨⟨v, rfl⟩, hW₂, e2, q2, q3, q4, q5, q6⟩ := id hfe
    have e3 : s₂ = ({ (U.calling g mk a).setFrames s₂.frames with heap := s₂.heap, slotsUsed := s₂.slotsUsed } : State).setVm s₂.vm := by
      have : s₂ = ({ s₂ with vm := (U.calling g mk a).vm } : State).setVm s₂.vm := rfl
      rw [e2] at this
      exact this
    obtain ⟨c₂, i₂, len₂, hc₂, hd₂, hf₂⟩ := hend
    have hW' : U.WarmedH s₂.vm := hW₂
    have hcc : c₂ = c := by
      have h1 : s₂.code? g.method = U.code? g.method := by
        rw [State.code?_eq, State.code?_eq, hW'.alike.method?]
      exact Option.some.inj (hc₂.symm.trans (h1.trans h.code))
    subst hcc
    have hlen : len₂ = len := by rw [hdg] at hd₂; cases hd₂; rfl
    subst hlen
    have hs₂ : s₂ = (({ U with heap := s₂.heap, slotsUsed := s₂.slotsUsed } : State).setVm s₂.vm).setTop { g with pc := g.pc + len₂, stack := v.toList ++ g.stack } := by
      refine e3.trans ?_
      rw [hf₂, State.calling_eq h.top, State.setFrames_setFrames, State.setTop_of_frames _ hr', hr]
      rfl
    have hsame : U.sameButNew ({ U with heap := s₂.heap, slotsUsed := s₂.slotsUsed } : State) L mc ms := by
      refine ⟨?_, q2, q3, q4, q5, q6⟩
      obtain ⟨t, ht, -⟩ := State.frames_cons hr
      show ({ U with heap := s₂.heap, slotsUsed := s₂.slotsUsed } : State) = { U.setFrames U.frames with heap := s₂.heap, slotsUsed := s₂.slotsUsed }
      rw [State.setFrames_self ht]
    subst hg
    refine Or.inl ⟨v, ⟨(({ U with heap := s₂.heap, slotsUsed := s₂.slotsUsed } : State).setVm s₂.vm), Ls ++ L, c0 + mc, s0 + ms⟩,
      ⟨X.admits, X.cas, X.clock, X.frames, X.room, X.hears, X.method, X.code, (X.here.setHeapUsed s₂.heap s₂.slotsUsed).setVm hW'.alike, X.tail, State.WarmedH.trans X.warmed hW', X.limits, X.bytes, X.same.trans (hsame.setVm s.vm)⟩,
      ⟨g, mk, s₂, L, rfl, rfl, hqc, rfl, hL, rfl, rfl⟩, ?_⟩
    show Steps p.tables e below _ ((({ U with heap := s₂.heap, slotsUsed := s₂.slotsUsed } : State).setVm s₂.vm).setTop { g with pc := g.pc + len₂, stack := v.toList ++ g.stack })
    rw [← hs₂]
    exact hsteps
  · obtain ⟨e2, q2, q3, q4, q5, q6⟩ := id hsm
    have e3 : s₂ = ({ (U.calling g mk a).setFrames s₂.frames with heap := s₂.heap, slotsUsed := s₂.slotsUsed } : State).setVm s₂.vm := by
      have : s₂ = ({ s₂ with vm := (U.calling g mk a).vm } : State).setVm s₂.vm := rfl
      rw [e2] at this
      exact this
    have hf₂ : s₂.frames = .throwing q :: .java g :: U.frames.tail := hend
    have hW' : U.WarmedH s₂.vm := hW₂
    have hs₂ : s₂ = ((({ U with heap := s₂.heap, slotsUsed := s₂.slotsUsed } : State).setVm s₂.vm).setTop g).pushFrame (.throwing q) := by
      refine e3.trans ?_
      rw [hf₂, State.calling_eq h.top, State.setFrames_setFrames, State.pushFrame, State.frames_setTop _ hr', State.setTop_of_frames _ hr', State.setFrames_setFrames, hr]
      rfl
    have hsame : U.sameButNew ({ U with heap := s₂.heap, slotsUsed := s₂.slotsUsed } : State) L mc ms := by
      refine ⟨?_, q2, q3, q4, q5, q6⟩
      obtain ⟨t, ht, -⟩ := State.frames_cons hr
      show ({ U with heap := s₂.heap, slotsUsed := s₂.slotsUsed } : State) = { U.setFrames U.frames with heap := s₂.heap, slotsUsed := s₂.slotsUsed }
      rw [State.setFrames_self ht]
    subst hg
    refine Or.inr ⟨q, ⟨(({ U with heap := s₂.heap, slotsUsed := s₂.slotsUsed } : State).setVm s₂.vm), Ls ++ L, c0 + mc, s0 + ms⟩,
      ⟨X.admits, X.cas, X.clock, X.frames, X.room, X.hears, X.method, X.code, (X.here.setHeapUsed s₂.heap s₂.slotsUsed).setVm hW'.alike, X.tail, State.WarmedH.trans X.warmed hW', X.limits, X.bytes, X.same.trans (hsame.setVm s.vm)⟩,
      ⟨g, mk, s₂, L, E, ce, rfl, rfl, hx, hce, hcv, hcl, rfl, hL, rfl, rfl⟩, ?_⟩
    show Steps p.tables e below _ (((({ U with heap := s₂.heap, slotsUsed := s₂.slotsUsed } : State).setVm s₂.vm).setTop g).pushFrame (.throwing q))
    rw [← hs₂]
    exact hsteps
end Payer
section Calls
variable {p : Program} {l : Launch} {e : Env} {R : Room} {s : State} {m : MethodId} {args : Array Value} {below : List Frame} {meth : Method} {c : Code} {T : State} {locs : List Loc} {cells slots : Nat}
theorem vx_callV (X : Stand p l e R s m args below meth c T locs cells slots) (hexec : p.tables.exec = Jvm.exec) {own C : String} {index : Nat} {y : MethodName} {bytes : ByteArray} {maxL : Nat} {ret : Option FieldType}
    (hown : s.vm.findClass own = some m.cls) (hlink : (Cond.methodLink own index y).before args s = true) (hinst : (Cond.instanceMethod y).before args s = true) (hsel : (Cond.selects C y y).before args s = true)
    (hcode : (Cond.code y bytes maxL ret).before args s = true) (hy : y.cls ≠ "java/lang/invoke/MethodHandle" ∧ y.cls ≠ "java/lang/invoke/VarHandle")
    {W9 : Nat} {Pre : Pt → Array Value → Prop} {Post : Pt → Array Value → Option Value → Pt → Prop} {PostX : Pt → Array Value → Addr → Pt → Prop} (hK : vx_Back l R p e below s args y 3 W9 Pre Post PostX)
    {b : Addr} {cellB : Cell} (hcell : T.heap[b]? = some cellB) (hobj : cellB.vm.isStatics = false) (hcls : s.vm.findClass C = some cellB.cls)
    {g : JFrame} (hg : g.method = m) (hsize : g.locals.size = c.maxLocals) {argsL rest : List Value} (hlen : ∀ sig, parseMethodDescriptor y.desc = some sig → argsL.length = sig.parameters.length)
    (hstack : g.stack = argsL.reverse ++ .ref b :: rest) (hW : 2 * g.monitorRoom + (rest.map fun v => v.category).sum ≤ W9) (hdg : decode c.code g.pc = .ok (.invokevirtual index, 3))
    (hpre : ∀ vm₁, s.WarmedH vm₁ → Pre ⟨T.setVm vm₁, locs, cells, slots⟩ (Value.ref b :: argsL).toArray) :
    (∃ (v : Option Value) (vm₁ : Vm) (B : Pt), s.WarmedH vm₁ ∧ Stand p l e R s m args below meth c B.U B.locs B.cells B.slots ∧ Post ⟨T.setVm vm₁, locs, cells, slots⟩ (Value.ref b :: argsL).toArray v B ∧
      ∀ target, Steps p.tables e below (B.U.setTop { g with pc := g.pc + 3, stack := v.toList ++ rest }) target → Steps p.tables e below (T.setTop g) target) ∨
    (∃ (q : Addr) (vm₁ : Vm) (B : Pt), s.WarmedH vm₁ ∧ Stand p l e R s m args below meth c B.U B.locs B.cells B.slots ∧ PostX ⟨T.setVm vm₁, locs, cells, slots⟩ (Value.ref b :: argsL).toArray q B ∧
      Steps p.tables e below (T.setTop g) ((B.U.setTop { g with stack := rest }).pushFrame (.throwing q))) := by
  obtain ⟨mk, methM, hnamed, hmethM, hstM, habM⟩ := Cond.instanceMethod_spec hinst
  obtain ⟨methM', cM, hmethM', -, -, -, -, -, -, hsigM⟩ := Cond.code_spec hnamed hcode
  cases hmethM.symm.trans hmethM'
  obtain ⟨c2, r2, m2, q1, q2, q3, q4, kP, hkP, hkPi⟩ := Cond.selects_spec hsel
  cases hcls.symm.trans q1
  cases (State.methodFound?_of_named hnamed hy).symm.trans q2
  cases hnamed.symm.trans q3
  have hselP : selectMethod e.platform s.vm cellB.cls mk = .method mk := by rw [Launch.admits_selectMethod X.admits]; exact q4
  obtain ⟨vm₁, X₁, hstep₁⟩ := X.invokevirtual hexec hown hlink hnamed hmethM hstM hkP hkPi hy (a := b) (cell := cellB) hcell
    (fun z h => by rw [h] at hobj; cases hobj) hselP hmethM habM hkP hkPi (g := g) hg (argsL := argsL) (rest := rest) (hlen _ hsigM) hstack hdg
  rcases hK m meth c ⟨T.setVm vm₁, locs, cells, slots⟩ { g with stack := rest } (.invokevirtual index) mk (Value.ref b :: argsL).toArray X₁ hg hsize hdg hW (X₁.named hnamed) (hpre vm₁ X₁.warmed) with ⟨v, B, X', hpost, hsteps⟩ | ⟨q, B, X', hpost, hsteps⟩
  · exact Or.inl ⟨v, vm₁, B, X₁.warmed, X', hpost, fun target h => hstep₁ _ fun acts => by rw [doInvoke_state]; exact hsteps.trans h⟩
  · exact Or.inr ⟨q, vm₁, B, X₁.warmed, X', hpost, hstep₁ _ fun acts => by rw [doInvoke_state]; exact hsteps⟩
theorem vx_callS (X : Stand p l e R s m args below meth c T locs cells slots) (hexec : p.tables.exec = Jvm.exec) {own : String} {index : Nat} {y : MethodName} {bytes : ByteArray} {maxL : Nat} {ret : Option FieldType}
    (hown : s.vm.findClass own = some m.cls) (hlink : (Cond.methodLink own index y).before args s = true) (hstat : (Cond.static y).before args s = true) (hinit : (Cond.initialized y.cls).before args s = true)
    (hcode : (Cond.code y bytes maxL ret).before args s = true) (hy : y.cls ≠ "java/lang/invoke/MethodHandle" ∧ y.cls ≠ "java/lang/invoke/VarHandle")
    {W9 : Nat} {Pre : Pt → Array Value → Prop} {Post : Pt → Array Value → Option Value → Pt → Prop} {PostX : Pt → Array Value → Addr → Pt → Prop} (hK : vx_Back l R p e below s args y 3 W9 Pre Post PostX)
    {g : JFrame} (hg : g.method = m) (hsize : g.locals.size = c.maxLocals) {argsL rest : List Value} (hlen : ∀ sig, parseMethodDescriptor y.desc = some sig → argsL.length = sig.parameters.length)
    (hstack : g.stack = argsL.reverse ++ rest) (hW : 2 * g.monitorRoom + (rest.map fun v => v.category).sum ≤ W9) (hdg : decode c.code g.pc = .ok (.invokestatic index, 3))
    (hpre : ∀ vm₁, s.WarmedH vm₁ → Pre ⟨T.setVm vm₁, locs, cells, slots⟩ argsL.toArray) :
    (∃ (v : Option Value) (vm₁ : Vm) (B : Pt), s.WarmedH vm₁ ∧ Stand p l e R s m args below meth c B.U B.locs B.cells B.slots ∧ Post ⟨T.setVm vm₁, locs, cells, slots⟩ argsL.toArray v B ∧
      ∀ target, Steps p.tables e below (B.U.setTop { g with pc := g.pc + 3, stack := v.toList ++ rest }) target → Steps p.tables e below (T.setTop g) target) ∨
    (∃ (q : Addr) (vm₁ : Vm) (B : Pt), s.WarmedH vm₁ ∧ Stand p l e R s m args below meth c B.U B.locs B.cells B.slots ∧ PostX ⟨T.setVm vm₁, locs, cells, slots⟩ argsL.toArray q B ∧
      Steps p.tables e below (T.setTop g) ((B.U.setTop { g with stack := rest }).pushFrame (.throwing q))) := by
  obtain ⟨mk, hnamed⟩ := Cond.code_named hcode
  obtain ⟨methM, cM, hmethM, -, -, -, -, -, -, hsigM⟩ := Cond.code_spec hnamed hcode
  have hstatic : methM.isStatic = true := Cond.static_spec hnamed hmethM hstat
  obtain ⟨kP, hkP, -⟩ := className_of_methodNamed hnamed
  have hinitP : kP.init = .initialized := Cond.initialized_spec (findClass_of_methodNamed hnamed) hkP hinit
  obtain ⟨vm₁, X₁, hstep₁⟩ := X.invokestatic hexec hown hlink hnamed hmethM hstatic hkP hinitP hy (g := g) hg (argsL := argsL) (rest := rest) (hlen _ hsigM) hstack hdg
  rcases hK m meth c ⟨T.setVm vm₁, locs, cells, slots⟩ { g with stack := rest } (.invokestatic index) mk argsL.toArray X₁ hg hsize hdg hW (X₁.named hnamed) (hpre vm₁ X₁.warmed) with ⟨v, B, X', hpost, hsteps⟩ | ⟨q, B, X', hpost, hsteps⟩
  · exact Or.inl ⟨v, vm₁, B, X₁.warmed, X', hpost, fun target h => hstep₁ _ fun acts => by rw [doInvoke_state]; exact hsteps.trans h⟩
  · exact Or.inr ⟨q, vm₁, B, X₁.warmed, X', hpost, hstep₁ _ fun acts => by rw [doInvoke_state]; exact hsteps⟩
end Calls
theorem vx_cls {s : State} {T : State} {vm₁ : Vm} {E : String} {k : ClassId} (hW : s.WarmedH vm₁) (h : (T.setVm vm₁).vm.findClass E = some k) : s.vm.findClass E = some k := by
  have h1 : vm₁.findClass E = some k := h
  rw [hW.alike.findClass] at h1
  exact h1
/-- the method's frame g, with q thrown over it -/
def vx_W (p : Program) (l : Launch) (e : Env) (R : Room) (s : State) (m : MethodId) (args : Array Value) (below : List Frame) (meth : Method) (c : Code) (H : Heap) (locs : List Loc) (cells slots : Nat) (Q : State → Prop) (g : JFrame) (q : Addr) : Prop :=
  ∀ T : State, T.heap = H → Stand p l e R s m args below meth c T locs cells slots → ∃ t, Steps p.tables e below ((T.setTop g).pushFrame (.throwing q)) t ∧ Q t
def vx_Run (p : Program) (l : Launch) (e : Env) (R : Room) (s : State) (m : MethodId) (args : Array Value) (below : List Frame) (meth : Method) (c : Code) (H : Heap) (locs : List Loc) (cells slots mc ms : Nat) (g : JFrame) (rest : List Value) (Qa : State → Outcome → State → Prop) (XC : String → State → State → Prop) (free : Addr → Prop) : Prop :=
  ∀ T : State, T.heap = H → Stand p l e R s m args below meth c T locs cells slots →
    (∃ (v : Option Value) (st₀ t T' : State) (L : List Loc), st₀.heap = H ∧ Stand p l e R s m args below meth c T' (locs ++ L) (cells + mc) (slots + ms) ∧ (∀ q ∈ L, free q.base) ∧ T'.heap = t.heap ∧ T'.vm = t.vm ∧ Qa st₀ (.returned v) t ∧
      Goes p e below T g T' { g with pc := g.pc + 3, stack := v.toList ++ rest }) ∨
    (∃ (q : Addr) (st₀ t T' : State) (L : List Loc) (E : String) (ce : Cell), st₀.heap = H ∧ Stand p l e R s m args below meth c T' (locs ++ L) (cells + mc) (slots + ms) ∧ (∀ z ∈ L, free z.base) ∧ T'.heap = t.heap ∧ T'.vm = t.vm ∧ XC E st₀ t ∧ t.heap[q]? = some ce ∧ ce.vm = .none ∧ s.vm.findClass E = some ce.cls ∧
      Steps p.tables e below (T.setTop g) ((T'.setTop { g with stack := rest }).pushFrame (.throwing q)))
def vx_X {S : Type} (px : S → Prop) (B : String → S → State → Prop) (A : Nat → Prop) : String → State → State → Prop := fun E st t => ∃ u : S, px u ∧ B E u t ∧ va_F A st t
section Runs
variable {p : Program} {l : Launch} {e : Env} {R : Room} {s : State} {m : MethodId} {args : Array Value} {below : List Frame} {meth : Method} {c : Code} {H : Heap} {locs : List Loc} {cells slots : Nat}
variable {y : MethodName} {bytes cc : ByteArray} {maxL nL mc ms n index : Nat} {ret : Option FieldType} {ws : List Cond} {rm : Room} {Pc : Array Value → State → Prop} {Qc : Array Value → State → Outcome → State → Prop} {XC : String → State → State → Prop} {free : Addr → Prop} {Ts : List Cond} {own C : String} {b : Addr} {As rest : List Value} {g : JFrame}
theorem vx_callBack (cb : CallB R s args own index y bytes maxL ret ws rm mc ms n) (hM : vx_Met l y ws rm Pc Qc XC mc ms free) (hbl : FrameBlind Pc) : vx_Back l R p e below s args y 3 8 (PreOf R mc ms Pc) (PostOf Qc mc ms free) (vx_Post XC mc ms free) := by
  obtain ⟨hrc, hrs, hfr, hlo, hws, hcw, -, hini, -⟩ := cb
  exact vx_back (bytes := bytes) (maxL := maxL) (ret := ret) hM hbl hrc hrs hfr hlo hws hcw (fun a' U hW => word_at hW (Or.inl (by first | rfl | simp [Cond.onTables, Cond.keeps, Cond.steady])) hini)
theorem vx_runV (S : CallFix p m c cc nL s args Ts own) (hM : vx_Met l y ws rm Pc Qc XC mc ms free) (cw : CallW R s args own C index y bytes maxL ret ws rm mc ms n) (hp : PreV s H C b Pc As)
    (hg : g.method = m) (hn : As.length = n) (hsize : g.locals.size = nL) (hstack : g.stack = As.reverse ++ .ref b :: rest) (hW : 2 * g.monitorRoom + (rest.map fun v => v.category).sum ≤ 8) (hdg : decode cc g.pc = .ok (.invokevirtual index, 3)) (hf : cells + mc ≤ R.cells ∧ slots + ms ≤ R.slots) :
    vx_Run p l e R s m args below meth c H locs cells slots mc ms g rest (Qc (Value.ref b :: As).toArray) XC free := by
  have hK : vx_Back l R p e below s args y 3 8 (PreOf R mc ms Pc) (PostOf Qc mc ms free) (vx_Post XC mc ms free) := vx_callBack cw.1 hM hp.1
  obtain ⟨⟨-, -, -, -, -, -, hcode, -, hy, hlen, hl⟩, hin, hse⟩ := cw
  obtain ⟨hx, hb, hml, ho, -⟩ := S
  obtain ⟨-, ⟨cellB, hcB, hoB, hclB⟩, hPc⟩ := hp
  intro T hT X
  rcases vx_callV X hx (C := C) (bytes := bytes) (maxL := maxL) (ret := ret) ho hl hin hse hcode hy hK (by rw [hT]; exact hcB) hoB hclB hg (hsize.trans hml.symm) (argsL := As) (rest := rest) (fun sig h => hn.trans (hlen sig h)) hstack hW (by rw [hb]; exact hdg)
    (fun vm₁ hW₁ => ⟨hf.1, hf.2, hPc (T.setVm vm₁) hT hW₁⟩) with ⟨v, vm₁, ⟨U', l2, c2, s2⟩, hW₁, X', ⟨g', mk, t, L, e1, e2, hq, h1, hL, h2, h3⟩, st⟩ | ⟨q, vm₁, ⟨U', l2, c2, s2⟩, hW₁, X', ⟨g', mk, t, L, E, ce, e1, e2, hq, hce, hcv, hcl, h1, hL, h2, h3⟩, st⟩
  · dsimp only [Pt.U, Pt.locs, Pt.cells, Pt.slots] at X' e1 e2 h1 h2 h3 st
    subst h1; subst h2; subst h3
    exact Or.inl ⟨v, (T.setVm vm₁).calling g' mk (Value.ref b :: As).toArray, t, U', L, hT, X', hL, e1, e2, hq, st⟩
  · dsimp only [Pt.U, Pt.locs, Pt.cells, Pt.slots] at X' e1 e2 h1 h2 h3 st hcl
    subst h1; subst h2; subst h3
    exact Or.inr ⟨q, (T.setVm vm₁).calling g' mk (Value.ref b :: As).toArray, t, U', L, E, ce, hT, X', hL, e1, e2, hq, hce, hcv, vx_cls hW₁ hcl, st⟩
theorem vx_runS (S : CallFix p m c cc nL s args Ts own) (hM : vx_Met l y ws rm Pc Qc XC mc ms free) (cw : CallB R s args own index y bytes maxL ret ws rm mc ms n ∧ (Cond.static y).before args s = true) (hp : PreS s H Pc As)
    (hg : g.method = m) (hn : As.length = n) (hsize : g.locals.size = nL) (hstack : g.stack = As.reverse ++ rest) (hW : 2 * g.monitorRoom + (rest.map fun v => v.category).sum ≤ 8) (hdg : decode cc g.pc = .ok (.invokestatic index, 3)) (hf : cells + mc ≤ R.cells ∧ slots + ms ≤ R.slots) :
    vx_Run p l e R s m args below meth c H locs cells slots mc ms g rest (Qc As.toArray) XC free := by
  have hK : vx_Back l R p e below s args y 3 8 (PreOf R mc ms Pc) (PostOf Qc mc ms free) (vx_Post XC mc ms free) := vx_callBack cw.1 hM hp.1
  obtain ⟨⟨-, -, -, -, -, -, hcode, hini, hy, hlen, hl⟩, hstt⟩ := cw
  obtain ⟨hx, hb, hml, ho, -⟩ := S
  intro T hT X
  rcases vx_callS X hx (bytes := bytes) (maxL := maxL) (ret := ret) ho hl hstt hini hcode hy hK hg (hsize.trans hml.symm) (argsL := As) (rest := rest) (fun sig h => hn.trans (hlen sig h)) hstack hW (by rw [hb]; exact hdg)
    (fun vm₁ hW₁ => ⟨hf.1, hf.2, hp.2 (T.setVm vm₁) hT hW₁⟩) with ⟨v, vm₁, ⟨U', l2, c2, s2⟩, hW₁, X', ⟨g', mk, t, L, e1, e2, hq, h1, hL, h2, h3⟩, st⟩ | ⟨q, vm₁, ⟨U', l2, c2, s2⟩, hW₁, X', ⟨g', mk, t, L, E, ce, e1, e2, hq, hce, hcv, hcl, h1, hL, h2, h3⟩, st⟩
  · dsimp only [Pt.U, Pt.locs, Pt.cells, Pt.slots] at X' e1 e2 h1 h2 h3 st
    subst h1; subst h2; subst h3
    exact Or.inl ⟨v, (T.setVm vm₁).calling g' mk As.toArray, t, U', L, hT, X', hL, e1, e2, hq, st⟩
  · dsimp only [Pt.U, Pt.locs, Pt.cells, Pt.slots] at X' e1 e2 h1 h2 h3 st hcl
    subst h1; subst h2; subst h3
    exact Or.inr ⟨q, (T.setVm vm₁).calling g' mk As.toArray, t, U', L, E, ce, hT, X', hL, e1, e2, hq, hce, hcv, vx_cls hW₁ hcl, st⟩
end Runs
section Rows
variable {p : Program} {l : Launch} {e : Env} {R : Room} {s : State} {m : MethodId} {args : Array Value} {below : List Frame} {meth : Method} {c : Code} {H : Heap} {locs : List Loc} {cells slots : Nat} {Q : State → Prop}
variable {mc ms : Nat} {free : Addr → Prop} {A0 A1 : Nat → Prop} {H0 : Heap} {a : Array Value} {pc : Nat} {ls : Array Slot} {st0 rest : List Value}
theorem vx_keep {st₀ t T' : State} {L : List Loc} (h0 : st₀.heap = H) (e1 : T'.heap = t.heap) (hS : va_S A0 H0 H locs) (hA : ∀ q, q < H.size → A1 q → A0 q) (hf : ∀ q, free q → A0 q) (hL : ∀ q ∈ L, free q.base) (hF : va_F A1 st₀ t) :
    H.size ≤ T'.heap.size ∧ (∀ q : Nat, q < H.size → ¬ A1 q → T'.heap[q]? = H[q]?) ∧ va_S A0 H0 T'.heap (locs ++ L) := by
  obtain ⟨hz, hk⟩ := hF
  rw [h0] at hz hk
  exact ⟨by rw [e1]; exact hz, fun q h1 h2 => by rw [e1]; exact hk q h1 h2,
    ⟨Nat.le_trans hS.1 (by rw [e1]; exact hz), fun q h1 h2 => by rw [e1, hk q (Nat.lt_of_lt_of_le h1 hS.1) (fun z => h2 (hA q (Nat.lt_of_lt_of_le h1 hS.1) z))]; exact hS.2.1 q h1 h2, fun q hq => by
      rcases List.mem_append.mp hq with h | h
      · exact hS.2.2 q h
      · exact hf _ (hL q h)⟩⟩
theorem vx_calli {S SX : Type} {post : Int32 → S → Prop} {px : SX → Prop} {B : S → State → Prop} {BX : String → SX → State → Prop} {AX : Nat → Prop} (hr : vx_Run p l e R s m args below meth c H locs cells slots mc ms (F0 m pc ls st0) rest (va_Qi post B A1 a) (vx_X px BX AX) free) (hS : va_S A0 H0 H locs) (hA : ∀ q, q < H.size → A1 q → A0 q) (hf : ∀ q, free q → A0 q) (hAX : ∀ q, q < H.size → AX q → A0 q)
    (kx : ∀ (E : String) (ce : Cell) (q9 : Addr) (u : SX) (t : State) (H1 : Heap) (locs1 : List Loc), t.heap = H1 → s.vm.Alike t.vm → px u → BX E u t → H.size ≤ H1.size → (∀ q : Nat, q < H.size → ¬ AX q → H1[q]? = H[q]?) → va_S A0 H0 H1 locs1 → H1[q9]? = some ce → ce.vm = .none → s.vm.findClass E = some ce.cls → vx_W p l e R s m args below meth c H1 locs1 (cells + mc) (slots + ms) Q (F0 m pc ls rest) q9)
    (kk : ∀ (r : Int32) (u : S) (t : State) (H1 : Heap) (locs1 : List Loc), t.heap = H1 → s.vm.Alike t.vm → post r u → B u t → H.size ≤ H1.size → (∀ q : Nat, q < H.size → ¬ A1 q → H1[q]? = H[q]?) → va_S A0 H0 H1 locs1 → W p l e R s m args below meth c H1 locs1 (cells + mc) (slots + ms) Q (F0 m (pc + 3) ls (.int r :: rest))) : W p l e R s m args below meth c H locs cells slots Q (F0 m pc ls st0) := by
  intro T hT X
  rcases hr T hT X with ⟨v, st₀, t, T', L, h0, X', hL, e1, e2, ⟨⟨r, u, hv, hp, hb⟩, hF⟩, st⟩ | ⟨q, st₀, t, T', L, E, ce, h0, X', hL, e1, e2, ⟨u, hp, hb, hF⟩, hce, hcv, hcl, st⟩
  · cases hv
    obtain ⟨k1, k2, k3⟩ := vx_keep h0 e1 hS hA hf hL hF
    obtain ⟨t2, a1, b1⟩ := kk r u t T'.heap (locs ++ L) e1.symm (by rw [← e2]; exact X'.warmed.alike) hp hb k1 k2 k3 T' rfl X'
    exact ⟨t2, st t2 a1, b1⟩
  · obtain ⟨k1, k2, k3⟩ := vx_keep h0 e1 hS hAX hf hL hF
    obtain ⟨t2, a1, b1⟩ := kx E ce q u t T'.heap (locs ++ L) e1.symm (by rw [← e2]; exact X'.warmed.alike) hp hb k1 k2 k3 (by rw [e1]; exact hce) hcv hcl T' rfl X'
    exact ⟨t2, st.trans a1, b1⟩
theorem vx_calll {S SX : Type} {post : Int64 → S → Prop} {px : SX → Prop} {B : S → State → Prop} {BX : String → SX → State → Prop} {AX : Nat → Prop} (hr : vx_Run p l e R s m args below meth c H locs cells slots mc ms (F0 m pc ls st0) rest (va_Ql post B A1 a) (vx_X px BX AX) free) (hS : va_S A0 H0 H locs) (hA : ∀ q, q < H.size → A1 q → A0 q) (hf : ∀ q, free q → A0 q) (hAX : ∀ q, q < H.size → AX q → A0 q)
    (kx : ∀ (E : String) (ce : Cell) (q9 : Addr) (u : SX) (t : State) (H1 : Heap) (locs1 : List Loc), t.heap = H1 → s.vm.Alike t.vm → px u → BX E u t → H.size ≤ H1.size → (∀ q : Nat, q < H.size → ¬ AX q → H1[q]? = H[q]?) → va_S A0 H0 H1 locs1 → H1[q9]? = some ce → ce.vm = .none → s.vm.findClass E = some ce.cls → vx_W p l e R s m args below meth c H1 locs1 (cells + mc) (slots + ms) Q (F0 m pc ls rest) q9)
    (kk : ∀ (r : Int64) (u : S) (t : State) (H1 : Heap) (locs1 : List Loc), t.heap = H1 → s.vm.Alike t.vm → post r u → B u t → H.size ≤ H1.size → (∀ q : Nat, q < H.size → ¬ A1 q → H1[q]? = H[q]?) → va_S A0 H0 H1 locs1 → W p l e R s m args below meth c H1 locs1 (cells + mc) (slots + ms) Q (F0 m (pc + 3) ls (.long r :: rest))) : W p l e R s m args below meth c H locs cells slots Q (F0 m pc ls st0) := by
  intro T hT X
  rcases hr T hT X with ⟨v, st₀, t, T', L, h0, X', hL, e1, e2, ⟨⟨r, u, hv, hp, hb⟩, hF⟩, st⟩ | ⟨q, st₀, t, T', L, E, ce, h0, X', hL, e1, e2, ⟨u, hp, hb, hF⟩, hce, hcv, hcl, st⟩
  · cases hv
    obtain ⟨k1, k2, k3⟩ := vx_keep h0 e1 hS hA hf hL hF
    obtain ⟨t2, a1, b1⟩ := kk r u t T'.heap (locs ++ L) e1.symm (by rw [← e2]; exact X'.warmed.alike) hp hb k1 k2 k3 T' rfl X'
    exact ⟨t2, st t2 a1, b1⟩
  · obtain ⟨k1, k2, k3⟩ := vx_keep h0 e1 hS hAX hf hL hF
    obtain ⟨t2, a1, b1⟩ := kx E ce q u t T'.heap (locs ++ L) e1.symm (by rw [← e2]; exact X'.warmed.alike) hp hb k1 k2 k3 (by rw [e1]; exact hce) hcv hcl T' rfl X'
    exact ⟨t2, st.trans a1, b1⟩
theorem vx_callf {S SX : Type} {post : UInt32 → S → Prop} {px : SX → Prop} {B : S → State → Prop} {BX : String → SX → State → Prop} {AX : Nat → Prop} (hr : vx_Run p l e R s m args below meth c H locs cells slots mc ms (F0 m pc ls st0) rest (va_Qf post B A1 a) (vx_X px BX AX) free) (hS : va_S A0 H0 H locs) (hA : ∀ q, q < H.size → A1 q → A0 q) (hf : ∀ q, free q → A0 q) (hAX : ∀ q, q < H.size → AX q → A0 q)
    (kx : ∀ (E : String) (ce : Cell) (q9 : Addr) (u : SX) (t : State) (H1 : Heap) (locs1 : List Loc), t.heap = H1 → s.vm.Alike t.vm → px u → BX E u t → H.size ≤ H1.size → (∀ q : Nat, q < H.size → ¬ AX q → H1[q]? = H[q]?) → va_S A0 H0 H1 locs1 → H1[q9]? = some ce → ce.vm = .none → s.vm.findClass E = some ce.cls → vx_W p l e R s m args below meth c H1 locs1 (cells + mc) (slots + ms) Q (F0 m pc ls rest) q9)
    (kk : ∀ (r : UInt32) (u : S) (t : State) (H1 : Heap) (locs1 : List Loc), t.heap = H1 → s.vm.Alike t.vm → post r u → B u t → H.size ≤ H1.size → (∀ q : Nat, q < H.size → ¬ A1 q → H1[q]? = H[q]?) → va_S A0 H0 H1 locs1 → W p l e R s m args below meth c H1 locs1 (cells + mc) (slots + ms) Q (F0 m (pc + 3) ls (.float r :: rest))) : W p l e R s m args below meth c H locs cells slots Q (F0 m pc ls st0) := by
  intro T hT X
  rcases hr T hT X with ⟨v, st₀, t, T', L, h0, X', hL, e1, e2, ⟨⟨r, u, hv, hp, hb⟩, hF⟩, st⟩ | ⟨q, st₀, t, T', L, E, ce, h0, X', hL, e1, e2, ⟨u, hp, hb, hF⟩, hce, hcv, hcl, st⟩
  · cases hv
    obtain ⟨k1, k2, k3⟩ := vx_keep h0 e1 hS hA hf hL hF
    obtain ⟨t2, a1, b1⟩ := kk r u t T'.heap (locs ++ L) e1.symm (by rw [← e2]; exact X'.warmed.alike) hp hb k1 k2 k3 T' rfl X'
    exact ⟨t2, st t2 a1, b1⟩
  · obtain ⟨k1, k2, k3⟩ := vx_keep h0 e1 hS hAX hf hL hF
    obtain ⟨t2, a1, b1⟩ := kx E ce q u t T'.heap (locs ++ L) e1.symm (by rw [← e2]; exact X'.warmed.alike) hp hb k1 k2 k3 (by rw [e1]; exact hce) hcv hcl T' rfl X'
    exact ⟨t2, st.trans a1, b1⟩
theorem vx_calld {S SX : Type} {post : UInt64 → S → Prop} {px : SX → Prop} {B : S → State → Prop} {BX : String → SX → State → Prop} {AX : Nat → Prop} (hr : vx_Run p l e R s m args below meth c H locs cells slots mc ms (F0 m pc ls st0) rest (va_Qd post B A1 a) (vx_X px BX AX) free) (hS : va_S A0 H0 H locs) (hA : ∀ q, q < H.size → A1 q → A0 q) (hf : ∀ q, free q → A0 q) (hAX : ∀ q, q < H.size → AX q → A0 q)
    (kx : ∀ (E : String) (ce : Cell) (q9 : Addr) (u : SX) (t : State) (H1 : Heap) (locs1 : List Loc), t.heap = H1 → s.vm.Alike t.vm → px u → BX E u t → H.size ≤ H1.size → (∀ q : Nat, q < H.size → ¬ AX q → H1[q]? = H[q]?) → va_S A0 H0 H1 locs1 → H1[q9]? = some ce → ce.vm = .none → s.vm.findClass E = some ce.cls → vx_W p l e R s m args below meth c H1 locs1 (cells + mc) (slots + ms) Q (F0 m pc ls rest) q9)
    (kk : ∀ (r : UInt64) (u : S) (t : State) (H1 : Heap) (locs1 : List Loc), t.heap = H1 → s.vm.Alike t.vm → post r u → B u t → H.size ≤ H1.size → (∀ q : Nat, q < H.size → ¬ A1 q → H1[q]? = H[q]?) → va_S A0 H0 H1 locs1 → W p l e R s m args below meth c H1 locs1 (cells + mc) (slots + ms) Q (F0 m (pc + 3) ls (.double r :: rest))) : W p l e R s m args below meth c H locs cells slots Q (F0 m pc ls st0) := by
  intro T hT X
  rcases hr T hT X with ⟨v, st₀, t, T', L, h0, X', hL, e1, e2, ⟨⟨r, u, hv, hp, hb⟩, hF⟩, st⟩ | ⟨q, st₀, t, T', L, E, ce, h0, X', hL, e1, e2, ⟨u, hp, hb, hF⟩, hce, hcv, hcl, st⟩
  · cases hv
    obtain ⟨k1, k2, k3⟩ := vx_keep h0 e1 hS hA hf hL hF
    obtain ⟨t2, a1, b1⟩ := kk r u t T'.heap (locs ++ L) e1.symm (by rw [← e2]; exact X'.warmed.alike) hp hb k1 k2 k3 T' rfl X'
    exact ⟨t2, st t2 a1, b1⟩
  · obtain ⟨k1, k2, k3⟩ := vx_keep h0 e1 hS hAX hf hL hF
    obtain ⟨t2, a1, b1⟩ := kx E ce q u t T'.heap (locs ++ L) e1.symm (by rw [← e2]; exact X'.warmed.alike) hp hb k1 k2 k3 (by rw [e1]; exact hce) hcv hcl T' rfl X'
    exact ⟨t2, st.trans a1, b1⟩
theorem vx_callv {S SX : Type} {post : S → Prop} {px : SX → Prop} {B : S → State → Prop} {BX : String → SX → State → Prop} {AX : Nat → Prop} (hr : vx_Run p l e R s m args below meth c H locs cells slots mc ms (F0 m pc ls st0) rest (va_Qv post B A1 a) (vx_X px BX AX) free) (hS : va_S A0 H0 H locs) (hA : ∀ q, q < H.size → A1 q → A0 q) (hf : ∀ q, free q → A0 q) (hAX : ∀ q, q < H.size → AX q → A0 q)
    (kx : ∀ (E : String) (ce : Cell) (q9 : Addr) (u : SX) (t : State) (H1 : Heap) (locs1 : List Loc), t.heap = H1 → s.vm.Alike t.vm → px u → BX E u t → H.size ≤ H1.size → (∀ q : Nat, q < H.size → ¬ AX q → H1[q]? = H[q]?) → va_S A0 H0 H1 locs1 → H1[q9]? = some ce → ce.vm = .none → s.vm.findClass E = some ce.cls → vx_W p l e R s m args below meth c H1 locs1 (cells + mc) (slots + ms) Q (F0 m pc ls rest) q9)
    (kk : ∀ (u : S) (t : State) (H1 : Heap) (locs1 : List Loc), t.heap = H1 → s.vm.Alike t.vm → post u → B u t → H.size ≤ H1.size → (∀ q : Nat, q < H.size → ¬ A1 q → H1[q]? = H[q]?) → va_S A0 H0 H1 locs1 → W p l e R s m args below meth c H1 locs1 (cells + mc) (slots + ms) Q (F0 m (pc + 3) ls (rest))) : W p l e R s m args below meth c H locs cells slots Q (F0 m pc ls st0) := by
  intro T hT X
  rcases hr T hT X with ⟨v, st₀, t, T', L, h0, X', hL, e1, e2, ⟨⟨u, hv, hp, hb⟩, hF⟩, st⟩ | ⟨q, st₀, t, T', L, E, ce, h0, X', hL, e1, e2, ⟨u, hp, hb, hF⟩, hce, hcv, hcl, st⟩
  · cases hv
    obtain ⟨k1, k2, k3⟩ := vx_keep h0 e1 hS hA hf hL hF
    obtain ⟨t2, a1, b1⟩ := kk u t T'.heap (locs ++ L) e1.symm (by rw [← e2]; exact X'.warmed.alike) hp hb k1 k2 k3 T' rfl X'
    exact ⟨t2, st t2 a1, b1⟩
  · obtain ⟨k1, k2, k3⟩ := vx_keep h0 e1 hS hAX hf hL hF
    obtain ⟨t2, a1, b1⟩ := kx E ce q u t T'.heap (locs ++ L) e1.symm (by rw [← e2]; exact X'.warmed.alike) hp hb k1 k2 k3 (by rw [e1]; exact hce) hcv hcl T' rfl X'
    exact ⟨t2, st.trans a1, b1⟩
/-- caught by the row x of this method's table; the rows ahead don't take it -/
theorem vx_catch {own name : String} {E : String} {ce : Cell} {q : Addr} (hown : s.vm.findClass own = some m.cls) (pre : List ExceptionTableEntry) (x : ExceptionTableEntry) (suf : List ExceptionTableEntry) (hsplit : c.exceptionTable.toList = pre ++ x :: suf)
    (hpass : ∀ z ∈ pre, covers z pc = false ∨ (z.catchType ≠ 0 ∧ ∃ nm : String, (Cond.classLink own z.catchType nm).before args s = true ∧ va_Nc E nm s)) (hx : covers x pc = true) (h0 : x.catchType ≠ 0)
    (hlink : (Cond.classLink own x.catchType name).before args s = true) (hcast : (Cond.castable E name).before args s = true) (hcell : H[q]? = some ce) (hv : ce.vm = .none) (hcl : s.vm.findClass E = some ce.cls)
    (kk : W p l e R s m args below meth c H locs cells slots Q (F0 m x.handlerPc ls [.ref q])) : vx_W p l e R s m args below meth c H locs cells slots Q (F0 m pc ls rest) q := by
  intro T hT X
  have hpl : e.platform.magicAccessors = ({} : Platform).magicAccessors := by rw [X.admits.platform]
  obtain ⟨c3, c4, hc3, hc4, hasg⟩ := Cond.castable_spec hcast
  cases Option.some.inj (hc3.symm.trans hcl)
  obtain ⟨c5, hc5, hcl5⟩ := Cond.classLink_spec hown hlink e.platform hpl
  cases Option.some.inj (hc4.symm.trans hc5)
  obtain ⟨vm', X', st⟩ := Stand.thenCaughtThrough X q (g := F0 m pc ls rest) rfl (Steps.refl _) (by rw [hT]; exact hcell) (by rw [hv]; rfl) (by obtain ⟨k9, h9, -⟩ := Vm.findClass_spec hcl; exact ⟨k9, h9⟩) pre x suf hsplit
    (fun z hz => by
      rcases hpass z hz with h | ⟨hz0, nm, hl1, hn1⟩
      · exact Or.inl h
      · obtain ⟨c6, hc6, hcl6⟩ := Cond.classLink_spec hown hl1 e.platform hpl
        obtain ⟨a8, b8, h1, h2, h3⟩ := hn1
        cases Option.some.inj (h1.symm.trans hcl)
        cases Option.some.inj (h2.symm.trans hc6)
        exact Or.inr ⟨hz0, _, hcl6, h3⟩) hx (Or.inr ⟨h0, c4, hcl5, hasg⟩)
  obtain ⟨t, a1, b1⟩ := kk (T.setVm vm') hT X'
  exact ⟨t, st.trans a1, b1⟩
end Rows
section Ends
variable {p : Program} {l : Launch} {e : Env} {R : Room} {s : State} {m : MethodId} {args : Array Value} {below : List Frame} {meth : Method} {c : Code} {H : Heap} {locs : List Loc} {cells slots : Nat} {Q : State → Prop}
variable {mc ms : Nat} {free : Addr → Prop} {A0 A1 : Nat → Prop} {H0 : Heap} {a : Array Value} {ls : Array Slot} {st0 rest : List Value}
variable {Qc : Array Value → State → Outcome → State → Prop} {XC : String → State → State → Prop}
/-- what a body that may throw owes at its end -/
def vx_MQ (below : List Frame) (Qc : Array Value → State → Outcome → State → Prop) (XC : String → State → State → Prop) (a : Array Value) (s : State) (mc ms : Nat) (free : Addr → Prop) : State → Prop := fun t =>
  ∃ o, t.status = .running ∧ Ended t below o ∧ vx_Q Qc XC mc ms free a s o t
theorem vx_ret {g : JFrame} {mc ms : Nat} (k : W p l e R s m args below meth c H locs cells slots (MQ below Qc args s mc ms free) g) : W p l e R s m args below meth c H locs cells slots (vx_MQ below Qc XC args s mc ms free) g := by
  intro T hT X
  obtain ⟨t, a1, o, b1, b2, b3, b4⟩ := k T hT X
  exact ⟨t, a1, o, b1, b2, Or.inl ⟨b3, b4⟩⟩
/-- not caught here: it goes on to the caller -/
theorem vx_widen {g : JFrame} {q : Addr} {k n : Nat} (h1 : cells ≤ k) (h2 : slots ≤ n) (kk : vx_W p l e R s m args below meth c H locs k n Q g q) : vx_W p l e R s m args below meth c H locs cells slots Q g q := fun T hT X => kk T hT (stand_widen X h1 h2)
theorem vx_out {pc : Nat} {E : String} {ce : Cell} {q : Addr} {mc ms : Nat} (hout : ∀ x ∈ c.exceptionTable.toList, covers x pc = false) (hlocks : meth.locks = false) (hcell : H[q]? = some ce) (hv : ce.vm = .none) (hcl : s.vm.findClass E = some ce.cls)
    (hx : ∀ t : State, t.heap = H → s.vm.Alike t.vm → XC E s t) (hf : ∀ z ∈ locs, free z.base) (hc : cells ≤ mc) (hs : slots ≤ ms) :
    vx_W p l e R s m args below meth c H locs cells slots (vx_MQ below Qc XC args s mc ms free) (F0 m pc ls rest) q := by
  intro T hT X
  obtain ⟨st1, hrun, hend, hW, hsm⟩ := X.leaveThrown q (g := F0 m pc ls rest) rfl rfl rfl hout hlocks
  have hcell9 : (T.setFrames (.throwing q :: below)).heap[q]? = some ce := by
    show T.heap[q]? = some ce
    rw [hT]; exact hcell
  exact ⟨_, st1, .threw q, hrun, hend, Or.inr ⟨q, rfl, E, ce, locs, hx _ hT hW.alike, hcell9, hv, hcl, hW, hsm.mono hc hs, hf⟩⟩
theorem vx_frame {U : State} {k n : Nat} (h : s.sameButNew ({ U with vm := s.vm } : State) locs k n) : s.heap.size ≤ U.heap.size ∧ ∀ q : Nat, q < s.heap.size → (∀ z ∈ locs, z.base ≠ q) → U.heap[q]? = s.heap[q]? := by
  obtain ⟨-, h2, -, -, -, h6⟩ := h
  refine ⟨h2, fun q hq hz => ?_⟩
  obtain ⟨c9, e1, e2, e3, e4⟩ := h6 q _ (Array.getElem?_eq_getElem hq)
  have hs : c9.slots = (s.heap[q]).slots := Array.ext_getElem? fun i => e4 i fun hm => hz _ hm rfl
  have h9 : c9 = s.heap[q] := by
    rw [hs] at e2
    exact e2
  have e5 : U.heap[q]? = some c9 := e1
  rw [e5, h9, Array.getElem?_eq_getElem hq]
/-- the words of a throw but the four that speak of the heap -/
def vx_no (w : Cond) : Bool := decide (w ≠ .isRef (.static Bundle.tN "UNASSIGNED_STACK" Bundle.steD)) && decide (w ≠ .isRef (.static Bundle.tN "SUPPRESSED_SENTINEL" Bundle.listD)) && decide (w ≠ .laysStatic Bundle.tN "UNASSIGNED_STACK" Bundle.steD) && decide (w ≠ .laysStatic Bundle.tN "SUPPRESSED_SENTINEL" Bundle.listD)
def vx_at0 (own : String) (ic : Nat) (X : String) (names : List String) : List Cond := (Bundle.ownAtoms0 own ic X names).filter vx_no
def vx_atS (own : String) (ic : Nat) (X : String) (names : List String) : List Cond := (Bundle.ownAtoms own ic X names).filter vx_no
/-- a word that the tables alone decide, or a good one -/
def vx_ot (w : Cond) : Bool := w.onTables || goodWord w
theorem vx_ot_at {args a' : Array Value} {s U : State} {w : Cond} (hW : s.WarmedH U.vm) (hvm : s.vm = U.vm) (hg : vx_ot w = true) (h : w.before args s = true) : w.before a' U = true := by
  simp only [vx_ot, Bool.or_eq_true] at hg
  rcases hg with hg | hg
  · exact va_tabs hg hvm h
  · exact word_at hW (good_of_word hg) h
/-- a list's words: the good ones out of the method's own list, the others by premises of their own -/
theorem vx_hat {args : Array Value} {s : State} {L B : List Cond} (h1 : ∀ w ∈ L.filter goodWord, w.before args s = true) (h2 : ∀ w ∈ L.filter (fun w => !goodWord w), w ∈ B) (h3 : ∀ w ∈ B, w.before args s = true) : ∀ w ∈ L, w.before args s = true := by
  intro w hw
  by_cases g : goodWord w = true
  · exact h1 w (List.mem_filter.mpr ⟨hw, g⟩)
  · refine h3 w (h2 w (List.mem_filter.mpr ⟨hw, ?_⟩))
    show (!goodWord w) = true
    cases hgw : goodWord w
    · rfl
    · exact absurd hgw g
theorem vx_c {args : Array Value} {s : State} {w : Cond} {B : List Cond} (h : w.before args s = true) (t : ∀ w ∈ B, w.before args s = true) : ∀ w' ∈ w :: B, w'.before args s = true := fun w' h' => (List.mem_cons.mp h').elim (fun e => by rw [e]; exact h) (t w')
theorem vx_n {args : Array Value} {s : State} : ∀ w ∈ ([] : List Cond), w.before args s = true := fun _ h => nomatch h
theorem vx_own {args : Array Value} {s : State} {L : List Cond} (h1 : ∀ w ∈ L.filter vx_no, w.before args s = true)
    (hU : (Cond.isRef (.static Bundle.tN "UNASSIGNED_STACK" Bundle.steD)).before args s = true) (hN : (Cond.isRef (.static Bundle.tN "SUPPRESSED_SENTINEL" Bundle.listD)).before args s = true)
    (lU : (Cond.laysStatic Bundle.tN "UNASSIGNED_STACK" Bundle.steD).before args s = true) (lN : (Cond.laysStatic Bundle.tN "SUPPRESSED_SENTINEL" Bundle.listD).before args s = true) : ∀ w ∈ L, w.before args s = true := by
  intro w hw
  by_cases e1 : w = .isRef (.static Bundle.tN "UNASSIGNED_STACK" Bundle.steD)
  · rw [e1]; exact hU
  · by_cases e2 : w = .isRef (.static Bundle.tN "SUPPRESSED_SENTINEL" Bundle.listD)
    · rw [e2]; exact hN
    · by_cases e3 : w = .laysStatic Bundle.tN "UNASSIGNED_STACK" Bundle.steD
      · rw [e3]; exact lU
      · by_cases e4 : w = .laysStatic Bundle.tN "SUPPRESSED_SENTINEL" Bundle.listD
        · rw [e4]; exact lN
        · exact h1 w (List.mem_filter.mpr ⟨hw, by unfold vx_no; rw [decide_eq_true e1, decide_eq_true e2, decide_eq_true e3, decide_eq_true e4]; rfl⟩)
/-- where a static field lies, its class's statics cell in H -/
def vx_L (C n d : String) (A : Nat → Prop) (U : State) (H : Heap) : Prop := ∃ (c : ClassId) (k : Class) (i : Nat) (f : Field) (a : Nat) (cell : Cell), U.vm.findClass C = some c ∧ U.fieldFound? C n d = some (c, k, i, f) ∧ f.isStatic = true ∧ k.statics = some a ∧ H[a]? = some cell ∧ cell.vm.isStatics = true ∧ cell.cls = c ∧ f.slot < cell.slots.size ∧ k.staticTypes[f.slot]? = some f.type ∧ ¬ A a
theorem vx_L.moved {C n d : String} {A : Nat → Prop} {u U : State} {H : Heap} (hvm : u.vm.Alike U.vm) (h : vx_L C n d A u H) : vx_L C n d A U H := by
  obtain ⟨c, k, i, f, a, cell, h1, h2, h3, h4, h5, h6, h7, h8, h9, h10⟩ := h
  obtain ⟨k', hi', he⟩ := State.fieldFound?_setVm hvm h2
  exact ⟨c, k', i, f, a, cell, by rw [hvm.findClass]; exact h1, hi', h3, by rw [he]; exact h4, h5, h6, h7, h8, by rw [he]; exact h9, h10⟩
theorem vx_L.kept {C n d : String} {A : Nat → Prop} {U : State} {H H1 : Heap} (h : vx_L C n d A U H) (hq : ∀ a : Nat, a < H.size → ¬ A a → H1[a]? = H[a]?) : vx_L C n d A U H1 := by
  obtain ⟨c, k, i, f, a, cell, h1, h2, h3, h4, h5, h6, h7, h8, h9, h10⟩ := h
  exact ⟨c, k, i, f, a, cell, h1, h2, h3, h4, by rw [hq a (Array.getElem?_eq_some_iff.mp h5).1 h10]; exact h5, h6, h7, h8, h9, h10⟩
theorem vx_L.narrow {C n d : String} {A B : Nat → Prop} {U : State} {H : Heap} (h : vx_L C n d A U H) (hAB : ∀ q, B q → A q) : vx_L C n d B U H := by
  obtain ⟨c, k, i, f, a, cell, h1, h2, h3, h4, h5, h6, h7, h8, h9, h10⟩ := h
  exact ⟨c, k, i, f, a, cell, h1, h2, h3, h4, h5, h6, h7, h8, h9, fun z => h10 (hAB _ z)⟩
theorem vx_L.word {C n d : String} {A : Nat → Prop} {s : State} {args : Array Value} (h : vx_L C n d A s s.heap) : (Cond.laysStatic C n d).before args s = true := by
  obtain ⟨c, k, i, f, a, cell, h1, h2, h3, h4, h5, h6, h7, h8, h9, -⟩ := h
  show (Cond.laysStatic C n d).holds args s none s [] = true
  exact Cond.laysStatic_of h1 h2 h3 h4 h5 h6 h7 h8 h9
/-- .. and what it holds: null or some reference -/
def vx_Zq (C n d : String) (A : Nat → Prop) (U : State) (H : Heap) : Prop := va_Zq C n d A U H ∧ vx_L C n d A U H
theorem vx_Zq.moved {C n d : String} {A : Nat → Prop} {u U : State} {H : Heap} (hvm : u.vm.Alike U.vm) (h : vx_Zq C n d A u H) : vx_Zq C n d A U H := ⟨va_Zq.moved hvm h.1, vx_L.moved hvm h.2⟩
theorem vx_Zq.kept {C n d : String} {A : Nat → Prop} {U : State} {H H1 : Heap} (h : vx_Zq C n d A U H) (hq : ∀ a : Nat, a < H.size → ¬ A a → H1[a]? = H[a]?) : vx_Zq C n d A U H1 := ⟨va_Zq.kept h.1 hq, vx_L.kept h.2 hq⟩
theorem vx_Zq.narrow {C n d : String} {A B : Nat → Prop} {U : State} {H : Heap} (h : vx_Zq C n d A U H) (hAB : ∀ q, B q → A q) : vx_Zq C n d B U H := ⟨va_Zq.narrow h.1 hAB, vx_L.narrow h.2 hAB⟩
theorem vx_Zqof {args : Array Value} {s : State} {C n d : String} {A : Nat → Prop} (hl : (Cond.laysStatic C n d).before args s = true) (hini : (Cond.initialized C).before args s = true) (h : (Cond.isRef (.static C n d)).before args s = true) (hA : ∀ a : Nat, a < s.heap.size → ¬ A a) : vx_Zq C n d A s s.heap := by
  refine ⟨va_Zqof hl hini h hA, ?_⟩
  obtain ⟨c, k, i, f, a, cell, h1, h2, h3, h4, h5, h6, h7, h8, h9⟩ := Cond.laysStatic_spec hl
  exact ⟨c, k, i, f, a, cell, h1, h2, h3, h4, h5, h6, h7, h8, h9, hA a (Array.getElem?_eq_some_iff.mp h5).1⟩
theorem vx_isRef {C n d : String} {v : Value} {A : Nat → Prop} {s : State} {args : Array Value} (h : va_Z C n d v A s s.heap) (hv : v.isRef = true) : (Cond.isRef (.static C n d)).before args s = true := by
  obtain ⟨cf, kf, fi, f, a, cell, h1, h2, h3, h4, h5, h6, h7, -⟩ := h
  have he : (Term.static C n d).eval args s none [] s = some v := by
    simp [Term.eval, State.fieldNamed?, h1, h2, h4, h5, h6, h7]
  simp only [Cond.before, Cond.holds, Cond.value, he]
  cases v <;> simp_all [Value.isRef]
theorem vx_isRefq {C n d : String} {A : Nat → Prop} {s : State} {args : Array Value} (h : va_Zq C n d A s s.heap) : (Cond.isRef (.static C n d)).before args s = true := by
  rcases h with h | ⟨t, h⟩
  · exact vx_isRef h rfl
  · exact vx_isRef h rfl
/-- the same frame, seen from here: as if the method were called anew in this heap -/
theorem vx_rebase {T : State} (X : Stand p l e R s m args below meth c T locs cells slots) {R' : Room} (hf : R'.frames ≤ R.frames) (hl : R'.locals ≤ R.locals) (hc : cells + R'.cells ≤ R.cells) (hs : slots + R'.slots ≤ R.slots) :
    Stand p l e R' ((T.setVm s.vm).setFrames (.invoking m args :: below)) m args below meth c T [] 0 0 := by
  have htop : (T.setVm s.vm).topJava?.isSome := X.here.top
  have hF : ((T.setVm s.vm).setFrames (.invoking m args :: below)).frames = .invoking m args :: below := State.frames_setFrames _ (State.cur_lt_of_top htop)
  obtain ⟨g₀, hg0⟩ := Option.isSome_iff_exists.mp htop
  obtain ⟨r, hr⟩ := State.topJava?_eq_some.mp hg0
  have hl9 : e.platform.stackLimits (T.setVm s.vm).me = e.platform.stackLimits s.me := X.limits
  have hb9 : (T.setVm s.vm).me.stackBytes = s.me.stackBytes := X.bytes
  refine ⟨X.admits, X.cas, X.clock, hF, ?_, X.hears, X.method, X.code, X.here, X.tail, X.warmed, ?_, ?_, ?_⟩
  · have h := X.room
    have hU : ((T.setVm s.vm).setFrames (.invoking m args :: below)).localsInUse = s.localsInUse := by
      rw [State.localsInUse_invoking hF (meth := meth) (c := c) X.method X.code, State.localsInUse_invoking X.frames X.method X.code]
    simp only [State.hasRoom, Bool.and_eq_true, decide_eq_true_eq] at h ⊢
    obtain ⟨⟨⟨⟨h1, h2, h3, h4, h5, h6⟩, h7⟩, h8⟩, h9⟩ := h
    rw [X.frames, List.length_cons] at h2 h3
    have q1 := X.heapSize
    have q2 := X.used
    simp only [hF, hU, List.length_cons, State.stackLimits_setFrames, State.stackBytes_setFrames, hl9, hb9]
    refine ⟨⟨⟨⟨by omega, by omega, by omega, by omega, by omega, h6⟩, ?_⟩, ?_⟩, X.book⟩
    · show T.heap.size + R'.cells ≤ e.platform.maxCells
      omega
    · show T.slotsUsed + R'.slots ≤ e.platform.maxSlots
      omega
  · rw [State.stackLimits_setFrames]; rfl
  · rw [State.stackBytes_setFrames]; rfl
  · refine ⟨?_, Nat.le_refl _, Nat.le_refl _, ?_, ?_, fun a c9 h9 => ⟨c9, h9, rfl, rfl, fun _ _ => rfl⟩⟩
    · obtain ⟨t, ht, -⟩ := State.frames_cons hr
      show T.setVm s.vm = { ((T.setVm s.vm).setFrames (.invoking m args :: below)).setFrames (T.setVm s.vm).frames with heap := T.heap, slotsUsed := T.slotsUsed }
      rw [State.setFrames_setFrames, State.setFrames_self ht]
      rfl
    · show T.slotsUsed = T.slotsUsed + ((T.heap.toList.drop T.heap.size).map (·.slots.size)).sum
      rw [List.drop_eq_nil_of_le (Nat.le_of_eq Array.length_toList)]
      rfl
    · show ((T.heap.toList.drop T.heap.size).map (·.slots.size)).sum ≤ 0
      rw [List.drop_eq_nil_of_le (Nat.le_of_eq Array.length_toList)]
      exact Nat.le_refl _
/-- 'throw new E()': new; dup; invokespecial; athrow -/
theorem vx_throw0 {cc : ByteArray} {pc : Nat} (hexec : p.tables.exec = Jvm.exec) (hb : c.code = cc) (hl : l.stackTraces = false) {own cls : String} {names : List String} {ik ic mc ms : Nat} {A : Nat → Prop}
    (hown : s.vm.findClass own = some m.cls) (hcls : Bundle.fit cls = true) (hnames : ∀ n ∈ names, Bundle.fit n = true)
    (hk : (Cond.classLink own ik cls).before args s = true) (hini : (Cond.initialized cls).before args s = true) (hat : ∀ w ∈ vx_at0 own ic cls names, w.before args s = true)
    (hgood : ∀ w ∈ Cond.classLink own ik cls :: Cond.initialized cls :: vx_at0 own ic cls names, vx_ot w = true)
    (hU : vx_Zq Bundle.tN "UNASSIGNED_STACK" Bundle.steD A s s.heap) (hN : vx_Zq Bundle.tN "SUPPRESSED_SENTINEL" Bundle.listD A s s.heap) (hS : va_S A s.heap H locs) (hsize : ls.size = c.maxLocals)
    (d0 : decode cc pc = .ok (.new ik, 3)) (d3 : decode cc (pc + 3) = .ok (.dup, 1)) (d4 : decode cc (pc + 4) = .ok (.invokespecial ic, 3)) (d7 : decode cc (pc + 7) = .ok (.athrow, 1))
    (hout : ∀ x ∈ c.exceptionTable.toList, covers x (pc + 7) = false)
    (hRframes : names.length + 3 < R.frames) (hRlocals : (rest.map fun v => v.category).sum + (13 * (names.length + 1) + 42) ≤ R.locals) (hRcells : cells + 1 ≤ R.cells) (hRslots : slots + 6 ≤ R.slots) (hlocks : meth.locks = false)
    (hx : ∀ t : State, s.vm.Alike t.vm → H.size ≤ t.heap.size → (∀ q : Nat, q < H.size → t.heap[q]? = H[q]?) → XC cls s t)
    (hf : ∀ z ∈ locs, free z.base) (hc : cells + 1 ≤ mc) (hs : slots + 6 ≤ ms) :
    W p l e R s m args below meth c H locs cells slots (vx_MQ below Qc XC args s mc ms free) (F0 m pc ls rest) := by
  intro T hT X
  have htr : e.platform.stackTraces = false := (show e.platform.stackTraces = l.stackTraces by rw [X.admits.platform]).trans hl
  have Y := vx_rebase X (R' := { frames := R.frames, locals := R.locals, cells := 1, slots := 6 }) (Nat.le_refl _) (Nat.le_refl _) hRcells hRslots
  obtain ⟨s', hA⟩ : ∃ z, z = (T.setVm s.vm).setFrames (.invoking m args :: below) := ⟨_, rfl⟩
  rw [← hA] at Y
  have hvm : s'.vm = s.vm := by rw [hA]; rfl
  have hhp : s'.heap = H := by rw [hA]; exact hT
  have hW0 : s.WarmedH s'.vm := by rw [hvm]; exact State.WarmedH.refl s
  have hat' : ∀ w ∈ vx_at0 own ic cls names, w.before args s' = true := fun w hw => vx_ot_at hW0 hvm.symm (hgood w (List.mem_cons_of_mem _ (List.mem_cons_of_mem _ hw))) (hat w hw)
  have hk' : (Cond.classLink own ik cls).before args s' = true := vx_ot_at hW0 hvm.symm (hgood _ List.mem_cons_self) hk
  have hini' : (Cond.initialized cls).before args s' = true := vx_ot_at hW0 hvm.symm (hgood _ (List.mem_cons_of_mem _ List.mem_cons_self)) hini
  have hU' : vx_Zq Bundle.tN "UNASSIGNED_STACK" Bundle.steD A s' s'.heap := by rw [hhp]; exact vx_Zq.moved hW0.alike (hU.kept hS.2.1)
  have hN' : vx_Zq Bundle.tN "SUPPRESSED_SENTINEL" Bundle.listD A s' s'.heap := by rw [hhp]; exact vx_Zq.moved hW0.alike (hN.kept hS.2.1)
  have h : ∀ w ∈ Bundle.ownAtoms0 own ic cls names, w.before args s' = true := vx_own hat' (vx_isRefq hU'.1) (vx_isRefq hN'.1) hU'.2.word hN'.2.word
  have hown' : s'.vm.findClass own = some m.cls := by rw [hvm]; exact hown
  have hins : (Cond.instantiable cls 6).before args s' = true := h _ (by simp [Bundle.ownAtoms0])
  obtain ⟨vm₁, cX, kX, hfX, hkX, -, -, X₁, st1⟩ := Y.newCold hexec (own := own) (C := cls) (index := ik) (n := 6) hown' hk' hins hini'
    (g := F0 m pc ls rest) rfl (by rw [hb]; exact d0) (Nat.le_refl _) (Nat.le_refl _)
  generalize hT1 : (T.setVm vm₁).pushCell { cls := cX, slots := kX.instanceTypes.map defaultValue, vm := .none } = T1 at X₁ st1
  have hcat : (Value.ref T.heap.size).category = 1 := rfl
  have hcellA : T1.heap[T.heap.size]? = some (freshCell cX kX) := by rw [← hT1]; exact State.heap_pushCell_size _ _
  have d3' : decode c.code (pc + 3) = .ok (.dup, 1) := by rw [hb]; exact d3
  obtain ⟨U, hsteps, hrun, hend, hW, hsame, ce, hce, hO⟩ := X₁.ctorThrow0 hexec htr (own := own) (cls := cls) (names := names) (ic := ic) hown' hcls hnames h (fun x hx => nomatch hx) hfX hkX hcellA (by rw [hhp, hT]; exact Nat.le_refl _)
    (g := { method := m, pc := pc + 4, locals := ls, stack := .ref T.heap.size :: .ref T.heap.size :: rest, locked := none }) rfl hsize rfl rfl (rest := rest) rfl
    (by rw [hb]; exact d4) (by rw [hb]; exact d7) hout hRframes (by simp only [List.map_cons, List.sum_cons, hcat]; omega) hlocks
  obtain ⟨f1, f2⟩ := vx_frame hsame
  rw [hhp] at f1 f2
  have hWs : s.WarmedH U.vm := State.WarmedH.trans hW0 hW
  have hcl : s.vm.findClass cls = some ce.cls := by
    have h9 := hO.cls
    rw [hvm] at h9
    exact h9
  have hall : s.sameButNew ({ U with vm := s.vm } : State) locs mc ms := by
    subst hA
    obtain ⟨e1, e2⟩ := hsame
    rw [State.setFrames_setFrames] at e1
    have h2 : (T.setVm s.vm).sameButNew ({ U with vm := s.vm } : State) [] (0 + 1) (0 + 6) := ⟨e1, e2⟩
    have h3 := X.same.trans h2
    rw [List.append_nil] at h3
    exact h3.mono hc hs
  refine ⟨U, ?_, .threw T.heap.size, hrun, hend, Or.inr ⟨T.heap.size, rfl, cls, ce, locs, hx U hWs.alike f1 (fun q hq => f2 q hq (fun z hz => nomatch hz)), hce, hO.vm, hcl, hWs, hall, hf⟩⟩
  refine st1 _ ?_
  show Steps p.tables e below (T1.setTop { method := m, pc := pc + 3, locals := ls, stack := .ref T.heap.size :: rest, locked := none }) _
  jvm_step X₁.here [X₁.here.top, hexec, d3', Value.category]
  exact hsteps
/-- 'throw new E("text")': new; dup; ldc; invokespecial; athrow -/
theorem vx_throwS {cc : ByteArray} {pc : Nat} (hexec : p.tables.exec = Jvm.exec) (hb : c.code = cc) (hl : l.stackTraces = false) {own cls text : String} {names : List String} {ik is ic mc ms sa : Nat} {A : Nat → Prop}
    (hown : s.vm.findClass own = some m.cls) (hcls : Bundle.fit cls = true) (hnames : ∀ n ∈ names, Bundle.fit n = true)
    (hk : (Cond.classLink own ik cls).before args s = true) (hini : (Cond.initialized cls).before args s = true) (hstr : vk_R own is text sa s) (hat : ∀ w ∈ vx_atS own ic cls names, w.before args s = true)
    (hgood : ∀ w ∈ Cond.classLink own ik cls :: Cond.initialized cls :: vx_atS own ic cls names, vx_ot w = true)
    (hU : vx_Zq Bundle.tN "UNASSIGNED_STACK" Bundle.steD A s s.heap) (hN : vx_Zq Bundle.tN "SUPPRESSED_SENTINEL" Bundle.listD A s s.heap) (hS : va_S A s.heap H locs) (hsize : ls.size = c.maxLocals)
    (d0 : decode cc pc = .ok (.new ik, 3)) (d3 : decode cc (pc + 3) = .ok (.dup, 1)) (d4 : decode cc (pc + 4) = .ok (.ldc is, 2)) (d6 : decode cc (pc + 6) = .ok (.invokespecial ic, 3)) (d9 : decode cc (pc + 9) = .ok (.athrow, 1))
    (hout : ∀ x ∈ c.exceptionTable.toList, covers x (pc + 9) = false)
    (hRframes : names.length + 3 < R.frames) (hRlocals : (rest.map fun v => v.category).sum + (13 * (names.length + 1) + 43) ≤ R.locals) (hRcells : cells + 1 ≤ R.cells) (hRslots : slots + 6 ≤ R.slots) (hlocks : meth.locks = false)
    (hx : ∀ t : State, s.vm.Alike t.vm → H.size ≤ t.heap.size → (∀ q : Nat, q < H.size → t.heap[q]? = H[q]?) → XC cls s t)
    (hf : ∀ z ∈ locs, free z.base) (hc : cells + 1 ≤ mc) (hs : slots + 6 ≤ ms) :
    W p l e R s m args below meth c H locs cells slots (vx_MQ below Qc XC args s mc ms free) (F0 m pc ls rest) := by
  intro T hT X
  have htr : e.platform.stackTraces = false := (show e.platform.stackTraces = l.stackTraces by rw [X.admits.platform]).trans hl
  have Y := vx_rebase X (R' := { frames := R.frames, locals := R.locals, cells := 1, slots := 6 }) (Nat.le_refl _) (Nat.le_refl _) hRcells hRslots
  obtain ⟨s', hA⟩ : ∃ z, z = (T.setVm s.vm).setFrames (.invoking m args :: below) := ⟨_, rfl⟩
  rw [← hA] at Y
  have hvm : s'.vm = s.vm := by rw [hA]; rfl
  have hhp : s'.heap = H := by rw [hA]; exact hT
  have hW0 : s.WarmedH s'.vm := by rw [hvm]; exact State.WarmedH.refl s
  have hat' : ∀ w ∈ vx_atS own ic cls names, w.before args s' = true := fun w hw => vx_ot_at hW0 hvm.symm (hgood w (List.mem_cons_of_mem _ (List.mem_cons_of_mem _ hw))) (hat w hw)
  have hk' : (Cond.classLink own ik cls).before args s' = true := vx_ot_at hW0 hvm.symm (hgood _ List.mem_cons_self) hk
  have hini' : (Cond.initialized cls).before args s' = true := vx_ot_at hW0 hvm.symm (hgood _ (List.mem_cons_of_mem _ List.mem_cons_self)) hini
  have hU' : vx_Zq Bundle.tN "UNASSIGNED_STACK" Bundle.steD A s' s'.heap := by rw [hhp]; exact vx_Zq.moved hW0.alike (hU.kept hS.2.1)
  have hN' : vx_Zq Bundle.tN "SUPPRESSED_SENTINEL" Bundle.listD A s' s'.heap := by rw [hhp]; exact vx_Zq.moved hW0.alike (hN.kept hS.2.1)
  have h : ∀ w ∈ Bundle.ownAtoms own ic cls names, w.before args s' = true := vx_own hat' (vx_isRefq hU'.1) (vx_isRefq hN'.1) hU'.2.word hN'.2.word
  have hown' : s'.vm.findClass own = some m.cls := by rw [hvm]; exact hown
  have hins : (Cond.instantiable cls 6).before args s' = true := h _ (by simp [Bundle.ownAtoms])
  obtain ⟨vm₁, cX, kX, hfX, hkX, -, -, X₁, st1⟩ := Y.newCold hexec (own := own) (C := cls) (index := ik) (n := 6) hown' hk' hins hini'
    (g := F0 m pc ls rest) rfl (by rw [hb]; exact d0) (Nat.le_refl _) (Nat.le_refl _)
  generalize hT1 : (T.setVm vm₁).pushCell { cls := cX, slots := kX.instanceTypes.map defaultValue, vm := .none } = T1 at X₁ st1
  have hcat : (Value.ref T.heap.size).category = 1 := rfl
  have hcellA : T1.heap[T.heap.size]? = some (freshCell cX kX) := by rw [← hT1]; exact State.heap_pushCell_size _ _
  have d3' : decode c.code (pc + 3) = .ok (.dup, 1) := by rw [hb]; exact d3
  have d4' : decode c.code (pc + 4) = .ok (.ldc is, 2) := by rw [hb]; exact d4
  have hstr' : vk_R own is text sa s' := vk_R.warm hW0 hstr
  obtain ⟨U, hsteps, hrun, hend, hW, hsame, ce, hce, hO⟩ := X₁.ctorThrowS hexec htr (own := own) (cls := cls) (names := names) (ic := ic) hown' hcls hnames h (fun x hx => nomatch hx) hfX hkX hcellA (by rw [hhp, hT]; exact Nat.le_refl _) (msg := .ref sa) rfl
    (g := { method := m, pc := pc + 6, locals := ls, stack := .ref sa :: .ref T.heap.size :: .ref T.heap.size :: rest, locked := none }) rfl hsize rfl rfl (rest := rest) rfl
    (by rw [hb]; exact d6) (by rw [hb]; exact d9) hout hRframes (by simp only [List.map_cons, List.sum_cons, hcat]; omega) hlocks
  obtain ⟨f1, f2⟩ := vx_frame hsame
  rw [hhp] at f1 f2
  have hWs : s.WarmedH U.vm := State.WarmedH.trans hW0 hW
  have hcl : s.vm.findClass cls = some ce.cls := by
    have h9 := hO.cls
    rw [hvm] at h9
    exact h9
  have hall : s.sameButNew ({ U with vm := s.vm } : State) locs mc ms := by
    subst hA
    obtain ⟨e1, e2⟩ := hsame
    rw [State.setFrames_setFrames] at e1
    have h2 : (T.setVm s.vm).sameButNew ({ U with vm := s.vm } : State) [] (0 + 1) (0 + 6) := ⟨e1, e2⟩
    have h3 := X.same.trans h2
    rw [List.append_nil] at h3
    exact h3.mono hc hs
  refine ⟨U, ?_, .threw T.heap.size, hrun, hend, Or.inr ⟨T.heap.size, rfl, cls, ce, locs, hx U hWs.alike f1 (fun q hq => f2 q hq (fun z hz => nomatch hz)), hce, hO.vm, hcl, hWs, hall, hf⟩⟩
  refine st1 _ ?_
  show Steps p.tables e below (T1.setTop { method := m, pc := pc + 3, locals := ls, stack := .ref T.heap.size :: rest, locked := none }) _
  jvm_step X₁.here [X₁.here.top, hexec, d3', Value.category]
  exact X₁.ldcString hexec (own := own) (text := text) (index := is) (a := sa) hown' hstr'.1 hstr'.2
    (g := { method := m, pc := pc + 4, locals := ls, stack := .ref T.heap.size :: .ref T.heap.size :: rest, locked := none }) rfl d4' _ hsteps
/-- 'throw new E("text")', the text by a wide index -/
theorem vx_throwSW {cc : ByteArray} {pc : Nat} (hexec : p.tables.exec = Jvm.exec) (hb : c.code = cc) (hl : l.stackTraces = false) {own cls text : String} {names : List String} {ik is ic mc ms sa : Nat} {A : Nat → Prop}
    (hown : s.vm.findClass own = some m.cls) (hcls : Bundle.fit cls = true) (hnames : ∀ n ∈ names, Bundle.fit n = true)
    (hk : (Cond.classLink own ik cls).before args s = true) (hini : (Cond.initialized cls).before args s = true) (hstr : vk_R own is text sa s) (hat : ∀ w ∈ vx_atS own ic cls names, w.before args s = true)
    (hgood : ∀ w ∈ Cond.classLink own ik cls :: Cond.initialized cls :: vx_atS own ic cls names, vx_ot w = true)
    (hU : vx_Zq Bundle.tN "UNASSIGNED_STACK" Bundle.steD A s s.heap) (hN : vx_Zq Bundle.tN "SUPPRESSED_SENTINEL" Bundle.listD A s s.heap) (hS : va_S A s.heap H locs) (hsize : ls.size = c.maxLocals)
    (d0 : decode cc pc = .ok (.new ik, 3)) (d3 : decode cc (pc + 3) = .ok (.dup, 1)) (d4 : decode cc (pc + 4) = .ok (.ldc_w is, 3)) (d7 : decode cc (pc + 7) = .ok (.invokespecial ic, 3)) (d10 : decode cc (pc + 10) = .ok (.athrow, 1))
    (hout : ∀ x ∈ c.exceptionTable.toList, covers x (pc + 10) = false)
    (hRframes : names.length + 3 < R.frames) (hRlocals : (rest.map fun v => v.category).sum + (13 * (names.length + 1) + 43) ≤ R.locals) (hRcells : cells + 1 ≤ R.cells) (hRslots : slots + 6 ≤ R.slots) (hlocks : meth.locks = false)
    (hx : ∀ t : State, s.vm.Alike t.vm → H.size ≤ t.heap.size → (∀ q : Nat, q < H.size → t.heap[q]? = H[q]?) → XC cls s t)
    (hf : ∀ z ∈ locs, free z.base) (hc : cells + 1 ≤ mc) (hs : slots + 6 ≤ ms) :
    W p l e R s m args below meth c H locs cells slots (vx_MQ below Qc XC args s mc ms free) (F0 m pc ls rest) := by
  intro T hT X
  have htr : e.platform.stackTraces = false := (show e.platform.stackTraces = l.stackTraces by rw [X.admits.platform]).trans hl
  have Y := vx_rebase X (R' := { frames := R.frames, locals := R.locals, cells := 1, slots := 6 }) (Nat.le_refl _) (Nat.le_refl _) hRcells hRslots
  obtain ⟨s', hA⟩ : ∃ z, z = (T.setVm s.vm).setFrames (.invoking m args :: below) := ⟨_, rfl⟩
  rw [← hA] at Y
  have hvm : s'.vm = s.vm := by rw [hA]; rfl
  have hhp : s'.heap = H := by rw [hA]; exact hT
  have hW0 : s.WarmedH s'.vm := by rw [hvm]; exact State.WarmedH.refl s
  have hat' : ∀ w ∈ vx_atS own ic cls names, w.before args s' = true := fun w hw => vx_ot_at hW0 hvm.symm (hgood w (List.mem_cons_of_mem _ (List.mem_cons_of_mem _ hw))) (hat w hw)
  have hk' : (Cond.classLink own ik cls).before args s' = true := vx_ot_at hW0 hvm.symm (hgood _ List.mem_cons_self) hk
  have hini' : (Cond.initialized cls).before args s' = true := vx_ot_at hW0 hvm.symm (hgood _ (List.mem_cons_of_mem _ List.mem_cons_self)) hini
  have hU' : vx_Zq Bundle.tN "UNASSIGNED_STACK" Bundle.steD A s' s'.heap := by rw [hhp]; exact vx_Zq.moved hW0.alike (hU.kept hS.2.1)
  have hN' : vx_Zq Bundle.tN "SUPPRESSED_SENTINEL" Bundle.listD A s' s'.heap := by rw [hhp]; exact vx_Zq.moved hW0.alike (hN.kept hS.2.1)
  have h : ∀ w ∈ Bundle.ownAtoms own ic cls names, w.before args s' = true := vx_own hat' (vx_isRefq hU'.1) (vx_isRefq hN'.1) hU'.2.word hN'.2.word
  have hown' : s'.vm.findClass own = some m.cls := by rw [hvm]; exact hown
  have hins : (Cond.instantiable cls 6).before args s' = true := h _ (by simp [Bundle.ownAtoms])
  obtain ⟨vm₁, cX, kX, hfX, hkX, -, -, X₁, st1⟩ := Y.newCold hexec (own := own) (C := cls) (index := ik) (n := 6) hown' hk' hins hini'
    (g := F0 m pc ls rest) rfl (by rw [hb]; exact d0) (Nat.le_refl _) (Nat.le_refl _)
  generalize hT1 : (T.setVm vm₁).pushCell { cls := cX, slots := kX.instanceTypes.map defaultValue, vm := .none } = T1 at X₁ st1
  have hcat : (Value.ref T.heap.size).category = 1 := rfl
  have hcellA : T1.heap[T.heap.size]? = some (freshCell cX kX) := by rw [← hT1]; exact State.heap_pushCell_size _ _
  have d3' : decode c.code (pc + 3) = .ok (.dup, 1) := by rw [hb]; exact d3
  have d4' : decode c.code (pc + 4) = .ok (.ldc_w is, 3) := by rw [hb]; exact d4
  have hstr' : vk_R own is text sa s' := vk_R.warm hW0 hstr
  obtain ⟨U, hsteps, hrun, hend, hW, hsame, ce, hce, hO⟩ := X₁.ctorThrowS hexec htr (own := own) (cls := cls) (names := names) (ic := ic) hown' hcls hnames h (fun x hx => nomatch hx) hfX hkX hcellA (by rw [hhp, hT]; exact Nat.le_refl _) (msg := .ref sa) rfl
    (g := { method := m, pc := pc + 7, locals := ls, stack := .ref sa :: .ref T.heap.size :: .ref T.heap.size :: rest, locked := none }) rfl hsize rfl rfl (rest := rest) rfl
    (by rw [hb]; exact d7) (by rw [hb]; exact d10) hout hRframes (by simp only [List.map_cons, List.sum_cons, hcat]; omega) hlocks
  obtain ⟨f1, f2⟩ := vx_frame hsame
  rw [hhp] at f1 f2
  have hWs : s.WarmedH U.vm := State.WarmedH.trans hW0 hW
  have hcl : s.vm.findClass cls = some ce.cls := by
    have h9 := hO.cls
    rw [hvm] at h9
    exact h9
  have hall : s.sameButNew ({ U with vm := s.vm } : State) locs mc ms := by
    subst hA
    obtain ⟨e1, e2⟩ := hsame
    rw [State.setFrames_setFrames] at e1
    have h2 : (T.setVm s.vm).sameButNew ({ U with vm := s.vm } : State) [] (0 + 1) (0 + 6) := ⟨e1, e2⟩
    have h3 := X.same.trans h2
    rw [List.append_nil] at h3
    exact h3.mono hc hs
  refine ⟨U, ?_, .threw T.heap.size, hrun, hend, Or.inr ⟨T.heap.size, rfl, cls, ce, locs, hx U hWs.alike f1 (fun q hq => f2 q hq (fun z hz => nomatch hz)), hce, hO.vm, hcl, hWs, hall, hf⟩⟩
  refine st1 _ ?_
  show Steps p.tables e below (T1.setTop { method := m, pc := pc + 3, locals := ls, stack := .ref T.heap.size :: rest, locked := none }) _
  jvm_step X₁.here [X₁.here.top, hexec, d3', Value.category]
  exact X₁.ldcStringW hexec (own := own) (text := text) (index := is) (a := sa) hown' hstr'.1 hstr'.2
    (g := { method := m, pc := pc + 4, locals := ls, stack := .ref T.heap.size :: .ref T.heap.size :: rest, locked := none }) rfl d4' _ hsteps
end Ends
section Bodies
variable {l : Launch}
theorem vx_ofW {y : MethodName} {ws ws' : List Cond} {rm : Room} {Pc : Array Value → State → Prop} {Qc : Array Value → State → Outcome → State → Prop} {XC : String → State → State → Prop} {mc ms : Nat} {free : Addr → Prop} {cc : ByteArray} {maxL : Nat} {ret : Option FieldType}
    (hy : plainName y.cls = true) (hw : ws = Cond.code y cc maxL ret :: ws')
    (body : ∀ p e s m args below meth c s₁, BodyLoose p l y (headSpec ws rm) cc maxL ret e s m args below meth c s₁ → c.maxLocals = maxL → (∀ x ∈ c.exceptionTable.toList, False) → Pc args s →
      W p l e (headSpec ws rm).room s m args below meth c s.heap [] 0 0 (vx_MQ below Qc XC args s mc ms free) (entryFrame m args maxL)) : vx_Met l y ws rm Pc Qc XC mc ms free := by
  refine MetFree.of_bodyS (code := cc) (maxLocals := maxL) (ret := ret) hy ?_ ?_
  · intro args s m h hn
    obtain ⟨meth, c, h1, h2, h3, h4, h5, h6, -, -⟩ := Cond.code_spec hn (atoms_spec (ws := ws) h _ (by rw [hw]; exact List.mem_cons_self))
    exact ⟨meth, c, h1, h2, h3, h4, h5, h6⟩
  · intro p e s m args below meth c s₁ B hml hP _
    have hh0 : s₁.heap = s.heap := by rw [B.state]; rfl
    have ht : ∀ x ∈ c.exceptionTable.toList, False := by
      obtain ⟨meth9, c9, h1, h2, -, -, -, -, h7, -⟩ := Cond.code_spec B.named (atoms_spec (ws := ws) B.pre _ (by rw [hw]; exact List.mem_cons_self))
      cases Option.some.inj (h1.symm.trans B.method)
      cases Option.some.inj (h2.symm.trans (Stand.of_body B).code)
      intro x hx
      rw [Array.isEmpty_iff.mp h7] at hx
      cases hx
    obtain ⟨t, a1, o, b1, b2, b3⟩ := body p e s m args below meth c s₁ B hml ht hP s₁ hh0 (Stand.of_body B)
    exact ⟨t, o, a1, b1, b2, b3⟩
/-- the table of a body with handlers -/
theorem vx_table {p : Program} {x y : MethodName} {S : Spec} {cc bytes : ByteArray} {maxL maxL' : Nat} {ret ret' : Option FieldType} {e : Env} {s s₁ : State} {m : MethodId} {args : Array Value} {below : List Frame} {meth : Method} {c : Code} {hh : List (Nat × Nat × Nat × Nat)}
    (B : BodyLoose p l y S cc maxL ret e s m args below meth c s₁) (h : (Cond.codeWith y bytes maxL' ret' hh).before args s = true) : c.exceptionTable.toList = tableOf hh := by
  obtain ⟨m9, meth9, c9, hn9, h1, h2, -, -, h6, -⟩ := Cond.codeWith_spec h
  cases Option.some.inj (hn9.symm.trans B.named)
  cases Option.some.inj (h1.symm.trans B.method)
  cases Option.some.inj (h2.symm.trans (Stand.of_body B).code)
  rw [← h6, table_eq]
end Bodies
end VXA
/-! ===== END ===== -/
/-! ===== BEGIN a static call of a method with an exception table ===== -/
section VXS
variable {p : Program} {l : Launch} {e : Env} {R : Room} {s : State} {m : MethodId} {args : Array Value} {below : List Frame} {meth : Method} {c : Code} {T : State} {H : Heap} {locs : List Loc} {cells slots : Nat}
abbrev vx_CSW (R : Room) (s : State) (args : Array Value) (own : String) (index : Nat) (y : MethodName) (bytes : ByteArray) (maxL : Nat) (ret : Option FieldType) (hh : List (Nat × Nat × Nat × Nat)) (ws : List Cond) (rm : Room) (mc ms n : Nat) : Prop :=
  (rm.cells = mc ∧ rm.slots = ms ∧ rm.frames + 1 ≤ R.frames ∧ 8 + (maxL + 11) + rm.locals ≤ R.locals ∧ (∀ w ∈ ws, ∀ (a' : Array Value) (U : State), s.WarmedH U.vm → w.before a' U = true) ∧ Cond.codeWith y bytes maxL ret hh ∈ ws) ∧
  (Cond.codeWith y bytes maxL ret hh).before args s = true ∧ (Cond.initialized y.cls).before args s = true ∧ (y.cls ≠ "java/lang/invoke/MethodHandle" ∧ y.cls ≠ "java/lang/invoke/VarHandle") ∧
  (∀ sig, parseMethodDescriptor y.desc = some sig → n = sig.parameters.length) ∧ (Cond.methodLink own index y).before args s = true ∧ (Cond.static y).before args s = true
theorem vx_cwSW {own : String} {index maxL mc ms : Nat} {y : MethodName} {bytes : ByteArray} {ret : Option FieldType} {hh : List (Nat × Nat × Nat × Nat)} {Ts ws ws' : List Cond} {rm : Room} (n : Nat) (ht : ∀ w ∈ Ts, w.before args s = true) (hT : GoodIn Ts (va_wsS own index y ws)) (hw : ws = Cond.codeWith y bytes maxL ret hh :: ws') (hrc : rm.cells = mc) (hrs : rm.slots = ms)
    (hd : y.cls ≠ "java/lang/invoke/MethodHandle" ∧ y.cls ≠ "java/lang/invoke/VarHandle" ∧ (parseMethodDescriptor y.desc).map (fun d => d.parameters.length) = some n) (hR : rm.frames + 1 ≤ R.frames ∧ 8 + (maxL + 11) + rm.locals ≤ R.locals) :
    vx_CSW R s args own index y bytes maxL ret hh ws rm mc ms n := by
  have ok : ∀ w ∈ va_wsS own index y ws, w.before args s = true := fun w h => ht w (hT w h).1
  have hG : GoodIn Ts ws := fun w h => hT w (by unfold va_wsS; exact List.mem_append_right _ h)
  have hc : Cond.codeWith y bytes maxL ret hh ∈ ws := by rw [hw]; exact List.mem_cons_self
  refine ⟨⟨hrc, hrs, hR.1, hR.2, pay_in ht hG, hc⟩, ht _ (hG _ hc).1, ok _ (by simp [va_wsS]), ⟨hd.1, hd.2.1⟩, fun sig h => ?_, ok _ (by simp [va_wsS]), ok _ (by simp [va_wsS])⟩
  have h2 := hd.2.2
  rw [h] at h2
  exact (Option.some.inj h2).symm
theorem vx_callSW (X : Stand p l e R s m args below meth c T locs cells slots) (hexec : p.tables.exec = Jvm.exec) {own : String} {index : Nat} {y : MethodName} {bytes : ByteArray} {maxL : Nat} {ret : Option FieldType} {hh : List (Nat × Nat × Nat × Nat)}
    (hown : s.vm.findClass own = some m.cls) (hlink : (Cond.methodLink own index y).before args s = true) (hstat : (Cond.static y).before args s = true) (hinit : (Cond.initialized y.cls).before args s = true)
    (hcode : (Cond.codeWith y bytes maxL ret hh).before args s = true) (hy : y.cls ≠ "java/lang/invoke/MethodHandle" ∧ y.cls ≠ "java/lang/invoke/VarHandle")
    {W9 : Nat} {Pre : Pt → Array Value → Prop} {Post : Pt → Array Value → Option Value → Pt → Prop} (hK : Back l R p e below s args y 3 W9 Pre Post)
    {g : JFrame} (hg : g.method = m) (hsize : g.locals.size = c.maxLocals) {argsL rest : List Value} (hlen : ∀ sig, parseMethodDescriptor y.desc = some sig → argsL.length = sig.parameters.length)
    (hstack : g.stack = argsL.reverse ++ rest) (hW : 2 * g.monitorRoom + (rest.map fun v => v.category).sum ≤ W9) (hdg : decode c.code g.pc = .ok (.invokestatic index, 3))
    (hpre : ∀ vm₁, s.WarmedH vm₁ → Pre ⟨T.setVm vm₁, locs, cells, slots⟩ argsL.toArray) :
    ∃ (v : Option Value) (vm₁ : Vm) (B : Pt), s.WarmedH vm₁ ∧ Stand p l e R s m args below meth c B.U B.locs B.cells B.slots ∧ Post ⟨T.setVm vm₁, locs, cells, slots⟩ argsL.toArray v B ∧
      ∀ target, Steps p.tables e below (B.U.setTop { g with pc := g.pc + 3, stack := v.toList ++ rest }) target → Steps p.tables e below (T.setTop g) target := by
  obtain ⟨mk, methM, cM, hnamed, hmethM, -, -, -, -, -, -, hsigM⟩ := Cond.codeWith_spec hcode
  have hstatic : methM.isStatic = true := Cond.static_spec hnamed hmethM hstat
  obtain ⟨kP, hkP, -⟩ := className_of_methodNamed hnamed
  have hinitP : kP.init = .initialized := Cond.initialized_spec (findClass_of_methodNamed hnamed) hkP hinit
  obtain ⟨vm₁, X₁, hstep₁⟩ := X.invokestatic hexec hown hlink hnamed hmethM hstatic hkP hinitP hy (g := g) hg (argsL := argsL) (rest := rest) (hlen _ hsigM) hstack hdg
  obtain ⟨v, B, X', hpost, hsteps⟩ := hK m meth c ⟨T.setVm vm₁, locs, cells, slots⟩ { g with stack := rest } (.invokestatic index) mk argsL.toArray X₁ hg hsize hdg hW (X₁.named hnamed) (hpre vm₁ X₁.warmed)
  exact ⟨v, vm₁, B, X₁.warmed, X', hpost, fun target h => hstep₁ _ fun acts => by rw [doInvoke_state]; exact hsteps.trans h⟩
theorem vx_runSW {y : MethodName} {bytes cc : ByteArray} {maxL nL mc ms n index : Nat} {ret : Option FieldType} {hh : List (Nat × Nat × Nat × Nat)} {ws : List Cond} {rm : Room} {Pc : Array Value → State → Prop} {Qc : Array Value → State → Outcome → State → Prop} {free : Addr → Prop} {Ts : List Cond} {own : String} {As rest : List Value} {g : JFrame}
    (S : CallFix p m c cc nL s args Ts own) (hM : Met l y ws rm Pc Qc mc ms free) (cw : vx_CSW R s args own index y bytes maxL ret hh ws rm mc ms n) (hp : PreS s H Pc As)
    (hg : g.method = m) (hn : As.length = n) (hsize : g.locals.size = nL) (hstack : g.stack = As.reverse ++ rest) (hW : 2 * g.monitorRoom + (rest.map fun v => v.category).sum ≤ 8) (hdg : decode cc g.pc = .ok (.invokestatic index, 3)) (hf : cells + mc ≤ R.cells ∧ slots + ms ≤ R.slots) :
    va_Run p l e R s m args below meth c H locs cells slots mc ms g rest (Qc As.toArray) (free) := by
  obtain ⟨⟨hrc, hrs, hfr, hlo, hws, hcw⟩, hcode, hini, hy, hlen, hl, hstt⟩ := cw
  have hK : Back l R p e below s args y 3 8 (PreOf R mc ms Pc) (PostOf Qc mc ms free) := va_backW (hh := hh) (bytes := bytes) (maxL := maxL) (ret := ret) hM hp.1 hrc hrs hfr hlo hws hcw (fun a' U hW => word_at hW (Or.inl (by first | rfl | simp [Cond.onTables, Cond.keeps, Cond.steady])) hini)
  obtain ⟨hx, hb, hml, ho, -⟩ := S
  intro T hT X
  obtain ⟨v, vm₁, ⟨U', l2, c2, s2⟩, hW₁, X', ⟨g', mk, t, L, e1, e2, hq, h1, hL, h2, h3⟩, st⟩ := vx_callSW X hx (hh := hh) (bytes := bytes) (maxL := maxL) (ret := ret) ho hl hstt hini hcode hy hK hg (hsize.trans hml.symm) (argsL := As) (rest := rest) (fun sig h => hn.trans (hlen sig h)) hstack hW (by rw [hb]; exact hdg)
    (fun vm₁ hW₁ => ⟨hf.1, hf.2, hp.2 (T.setVm vm₁) hT hW₁⟩)
  dsimp only [Pt.U, Pt.locs, Pt.cells, Pt.slots] at X' e1 e2 h1 h2 h3 st
  subst h1; subst h2; subst h3
  exact ⟨v, (T.setVm vm₁).calling g' mk As.toArray, t, U', L, hT, X', hL, e1, e2, hq, st⟩
/-- not caught here, past rows that name other classes: it goes on to the caller -/
theorem vx_outP {p : Program} {l : Launch} {e : Env} {R : Room} {s : State} {m : MethodId} {args : Array Value} {below : List Frame} {meth : Method} {c : Code} {H : Heap} {locs : List Loc} {cells slots : Nat} {free : Addr → Prop} {ls : Array Slot} {rest : List Value} {Qc : Array Value → State → Outcome → State → Prop} {XC : String → State → State → Prop}
    {pc : Nat} {own E : String} {ce : Cell} {q : Addr} {mc ms : Nat} (hown : s.vm.findClass own = some m.cls) (hlocks : meth.locks = false)
    (hpass : ∀ z ∈ c.exceptionTable.toList, covers z pc = false ∨ (z.catchType ≠ 0 ∧ ∃ nm : String, (Cond.classLink own z.catchType nm).before args s = true ∧ va_Nc E nm s)) (hcell : H[q]? = some ce) (hv : ce.vm = .none) (hcl : s.vm.findClass E = some ce.cls)
    (hx : ∀ t : State, t.heap = H → s.vm.Alike t.vm → XC E s t) (hf : ∀ z ∈ locs, free z.base) (hc : cells ≤ mc) (hs : slots ≤ ms) :
    vx_W p l e R s m args below meth c H locs cells slots (vx_MQ below Qc XC args s mc ms free) (F0 m pc ls rest) q := by
  intro T hT X
  have hpl : e.platform.magicAccessors = ({} : Platform).magicAccessors := by rw [X.admits.platform]
  obtain ⟨vm', hW', X', st⟩ := Stand.outThrough X hlocks q (g := F0 m pc ls rest) rfl rfl rfl (cell := ce) (by rw [hT]; exact hcell) (by rw [hv]; rfl)
    (by obtain ⟨k9, h9, -⟩ := Vm.findClass_spec hcl; exact ⟨k9, h9⟩) (fun z hz => by
      rcases hpass z hz with h | ⟨hz0, nm, hl1, hn1⟩
      · exact Or.inl h
      · obtain ⟨c6, hc6, hcl6⟩ := Cond.classLink_spec hown hl1 e.platform hpl
        obtain ⟨a8, b8, h1, h2, h3⟩ := hn1
        cases Option.some.inj (h1.symm.trans hcl)
        cases Option.some.inj (h2.symm.trans hc6)
        exact Or.inr ⟨hz0, _, hcl6, h3⟩)
  obtain ⟨g₀, hfr⟩ := X'.frames_eq
  have hcell9 : ((T.setVm vm').setFrames (.throwing q :: below)).heap[q]? = some ce := by
    show T.heap[q]? = some ce
    rw [hT]; exact hcell
  have hend : Ended ((T.setVm vm').setFrames (.throwing q :: below)) below (.threw q) := State.frames_setFrames _ (State.cur_lt_of_frames hfr)
  refine ⟨(T.setVm vm').setFrames (.throwing q :: below), ?_, .threw q, X'.here.running, hend, Or.inr ⟨q, rfl, E, ce, locs, hx _ hT (X'.ends _).1.alike, hcell9, hv, hcl, (X'.ends _).1, (X'.ends _).2.mono hc hs, hf⟩⟩
  rw [X.pushThrowing_eq]
  exact st
/-- a thing of a world lies in the heap -/
theorem vx_lt {D : va_G} {cl : List vw_C} {ws : va_W} {H1 : Heap} (h : va_P D cl ws H1) {k : Nat} {q : Nat × va_E} (hk : ws[k]? = some q) : q.1 < H1.size := (h k q hk).lt
end VXS
/-! ===== END ===== -/
/-! ===== BEGIN methods with a table of their own: called by a name, returning or throwing ===== -/
section VXH
/-! vx_backW, vx_callVX, vx_callSX, vx_callVW, vx_runVW, vx_runVX, vx_runSX, vx_ofWH follow the same proofs as their sisters above (Free/Laws.lean, Shelf42/LK1.lean); vx_outP calls Shelf42/NT130.lean (outThrough). -/
section
variable {l : Launch} {R : Room} {p : Program} {e : Env} {below : List Frame} {s : State} {sargs : Array Value} {y : MethodName} {len W9 : Nat}
theorem vx_backW {ws : List Cond} {rm : Room} {Pc : Array Value → State → Prop} {Qc : Array Value → State → Outcome → State → Prop} {XC : String → State → State → Prop} {mc ms : Nat} {free : Addr → Prop} {bytes : ByteArray} {maxL : Nat} {ret : Option FieldType} {hh : List (Nat × Nat × Nat × Nat)}
    (hM : vx_Met l y ws rm Pc Qc XC mc ms free) (hblind : FrameBlind Pc) (hrc : rm.cells = mc) (hrs : rm.slots = ms)
    (hframes : rm.frames + 1 ≤ R.frames) (hlocals : W9 + (maxL + 11) + rm.locals ≤ R.locals)
    (hws : ∀ w ∈ ws, ∀ a' U, s.WarmedH U.vm → w.before a' U = true) (hcode : Cond.codeWith y bytes maxL ret hh ∈ ws) (hinit : ∀ a' U, s.WarmedH U.vm → (Cond.initialized y.cls).before a' U = true) :
    vx_Back l R p e below s sargs y len W9 (PreOf R mc ms Pc) (PostOf Qc mc ms free) (vx_Post XC mc ms free) := by
  intro m meth c A g ig mk a X hg hsize hdg hW hn hp
  have h1 : (headSpec ws rm).pre.before a A.U = true := atoms_intro fun w hw => hws w hw _ _ X.warmed
  have h2 : (Cond.codeWith y bytes maxL ret hh).before a A.U = true := hws _ hcode _ _ X.warmed
  have h3 : (Cond.initialized y.cls).before a A.U = true := hinit _ _ X.warmed
  have h4 : A.cells + (headSpec ws rm).room.cells ≤ R.cells := by rw [show (headSpec ws rm).room.cells = mc from hrc]; exact hp.1
  have h5 : A.slots + (headSpec ws rm).room.slots ≤ R.slots := by rw [show (headSpec ws rm).room.slots = ms from hrs]; exact hp.2.1
  have hPc : Pc a (A.U.calling g mk a) := hblind _ _ _ _ hp.2.2
  obtain ⟨U, Ls, c0, s0⟩ := A
  dsimp only [Pt.U, Pt.locs, Pt.cells, Pt.slots] at h1 h2 h3 h4 h5 X hn hPc ⊢
  obtain ⟨m9, methY, cY, hn9, hmY, hcY, -, hlY, -⟩ := Cond.codeWith_spec h2
  cases Option.some.inj (hn9.symm.trans hn)
  obtain ⟨kY, hkY, -⟩ := className_of_methodNamed hn
  have hinitY : kY.init = .initialized := Cond.initialized_spec (findClass_of_methodNamed hn) hkY h3
  have h : At U g.method c below := by rw [hg]; exact X.here
  have hlocals9 : W9 + (maxL + 11) + (headSpec ws rm).room.locals ≤ R.locals := hlocals
  have happ : (headSpec ws rm).appliesLoose y e.platform (U.calling g mk a) = true :=
    Spec.appliesLoose_calling (g := g) h hdg hn hkY hinitY
      (X.room_calling (g := g) (R' := (headSpec ws rm).room) hsize hmY hcY hframes (by rw [hlY]; omega) h4 h5) h1
  obtain ⟨mid, hmid⟩ := h.above
  have hfr : (U.setTop g).frames = (.java g :: mid) ++ below := by rw [State.frames_setTop' g h.top, hmid]; rfl
  obtain ⟨o, s₂, hsteps, -, hend, hq⟩ := Steps.callFree hM p X.admits X.cas X.clock (acts := []) hfr happ hPc trivial
  have hq' : vx_Q Qc XC mc ms free a (U.calling g mk a) o s₂ := hq
  rw [State.frames_setTop' g h.top] at hend
  obtain ⟨g₀, hg0⟩ := Option.isSome_iff_exists.mp h.top
  obtain ⟨r, hr⟩ := State.topJava?_eq_some.mp hg0
  have hr' : (({ U with heap := s₂.heap, slotsUsed := s₂.slotsUsed } : State).setVm s₂.vm).frames = .java g₀ :: r := hr
  rcases hq' with ⟨hqc, L, hfe, hL⟩ | ⟨q, rfl, E, ce, L, hx, hce, hcv, hcl, hW₂, hsm, hL⟩
  · obtain ⟨⟨v, rfl⟩, hW₂, e2, q2, q3, q4, q5, q6⟩ := id hfe
    have e3 : s₂ = ({ (U.calling g mk a).setFrames s₂.frames with heap := s₂.heap, slotsUsed := s₂.slotsUsed } : State).setVm s₂.vm := by
      have : s₂ = ({ s₂ with vm := (U.calling g mk a).vm } : State).setVm s₂.vm := rfl
      rw [e2] at this
      exact this
    obtain ⟨c₂, i₂, len₂, hc₂, hd₂, hf₂⟩ := hend
    have hW' : U.WarmedH s₂.vm := hW₂
    have hcc : c₂ = c := by
      have h1 : s₂.code? g.method = U.code? g.method := by
        rw [State.code?_eq, State.code?_eq, hW'.alike.method?]
      exact Option.some.inj (hc₂.symm.trans (h1.trans h.code))
    subst hcc
    have hlen : len₂ = len := by rw [hdg] at hd₂; cases hd₂; rfl
    subst hlen
    have hs₂ : s₂ = (({ U with heap := s₂.heap, slotsUsed := s₂.slotsUsed } : State).setVm s₂.vm).setTop { g with pc := g.pc + len₂, stack := v.toList ++ g.stack } := by
      refine e3.trans ?_
      rw [hf₂, State.calling_eq h.top, State.setFrames_setFrames, State.setTop_of_frames _ hr', hr]
      rfl
    have hsame : U.sameButNew ({ U with heap := s₂.heap, slotsUsed := s₂.slotsUsed } : State) L mc ms := by
      refine ⟨?_, q2, q3, q4, q5, q6⟩
      obtain ⟨t, ht, -⟩ := State.frames_cons hr
      show ({ U with heap := s₂.heap, slotsUsed := s₂.slotsUsed } : State) = { U.setFrames U.frames with heap := s₂.heap, slotsUsed := s₂.slotsUsed }
      rw [State.setFrames_self ht]
    subst hg
    refine Or.inl ⟨v, ⟨(({ U with heap := s₂.heap, slotsUsed := s₂.slotsUsed } : State).setVm s₂.vm), Ls ++ L, c0 + mc, s0 + ms⟩,
      ⟨X.admits, X.cas, X.clock, X.frames, X.room, X.hears, X.method, X.code, (X.here.setHeapUsed s₂.heap s₂.slotsUsed).setVm hW'.alike, X.tail, State.WarmedH.trans X.warmed hW', X.limits, X.bytes, X.same.trans (hsame.setVm s.vm)⟩,
      ⟨g, mk, s₂, L, rfl, rfl, hqc, rfl, hL, rfl, rfl⟩, ?_⟩
    show Steps p.tables e below _ ((({ U with heap := s₂.heap, slotsUsed := s₂.slotsUsed } : State).setVm s₂.vm).setTop { g with pc := g.pc + len₂, stack := v.toList ++ g.stack })
    rw [← hs₂]
    exact hsteps
  · obtain ⟨e2, q2, q3, q4, q5, q6⟩ := id hsm
    have e3 : s₂ = ({ (U.calling g mk a).setFrames s₂.frames with heap := s₂.heap, slotsUsed := s₂.slotsUsed } : State).setVm s₂.vm := by
      have : s₂ = ({ s₂ with vm := (U.calling g mk a).vm } : State).setVm s₂.vm := rfl
      rw [e2] at this
      exact this
    have hf₂ : s₂.frames = .throwing q :: .java g :: U.frames.tail := hend
    have hW' : U.WarmedH s₂.vm := hW₂
    have hs₂ : s₂ = ((({ U with heap := s₂.heap, slotsUsed := s₂.slotsUsed } : State).setVm s₂.vm).setTop g).pushFrame (.throwing q) := by
      refine e3.trans ?_
      rw [hf₂, State.calling_eq h.top, State.setFrames_setFrames, State.pushFrame, State.frames_setTop _ hr', State.setTop_of_frames _ hr', State.setFrames_setFrames, hr]
      rfl
    have hsame : U.sameButNew ({ U with heap := s₂.heap, slotsUsed := s₂.slotsUsed } : State) L mc ms := by
      refine ⟨?_, q2, q3, q4, q5, q6⟩
      obtain ⟨t, ht, -⟩ := State.frames_cons hr
      show ({ U with heap := s₂.heap, slotsUsed := s₂.slotsUsed } : State) = { U.setFrames U.frames with heap := s₂.heap, slotsUsed := s₂.slotsUsed }
      rw [State.setFrames_self ht]
    subst hg
    refine Or.inr ⟨q, ⟨(({ U with heap := s₂.heap, slotsUsed := s₂.slotsUsed } : State).setVm s₂.vm), Ls ++ L, c0 + mc, s0 + ms⟩,
      ⟨X.admits, X.cas, X.clock, X.frames, X.room, X.hears, X.method, X.code, (X.here.setHeapUsed s₂.heap s₂.slotsUsed).setVm hW'.alike, X.tail, State.WarmedH.trans X.warmed hW', X.limits, X.bytes, X.same.trans (hsame.setVm s.vm)⟩,
      ⟨g, mk, s₂, L, E, ce, rfl, rfl, hx, hce, hcv, hcl, rfl, hL, rfl, rfl⟩, ?_⟩
    show Steps p.tables e below _ (((({ U with heap := s₂.heap, slotsUsed := s₂.slotsUsed } : State).setVm s₂.vm).setTop g).pushFrame (.throwing q))
    rw [← hs₂]
    exact hsteps
end
variable {p : Program} {l : Launch} {e : Env} {R : Room} {s : State} {m : MethodId} {args : Array Value} {below : List Frame} {meth : Method} {c : Code} {T : State} {H : Heap} {locs : List Loc} {cells slots : Nat}
theorem vx_callVX (X : Stand p l e R s m args below meth c T locs cells slots) (hexec : p.tables.exec = Jvm.exec) {own C : String} {index : Nat} {y : MethodName} {bytes : ByteArray} {maxL : Nat} {ret : Option FieldType} {hh : List (Nat × Nat × Nat × Nat)}
    (hown : s.vm.findClass own = some m.cls) (hlink : (Cond.methodLink own index y).before args s = true) (hinst : (Cond.instanceMethod y).before args s = true) (hsel : (Cond.selects C y y).before args s = true)
    (hcode : (Cond.codeWith y bytes maxL ret hh).before args s = true) (hy : y.cls ≠ "java/lang/invoke/MethodHandle" ∧ y.cls ≠ "java/lang/invoke/VarHandle")
    {W9 : Nat} {Pre : Pt → Array Value → Prop} {Post : Pt → Array Value → Option Value → Pt → Prop} {PostX : Pt → Array Value → Addr → Pt → Prop} (hK : vx_Back l R p e below s args y 3 W9 Pre Post PostX)
    {b : Addr} {cellB : Cell} (hcell : T.heap[b]? = some cellB) (hobj : cellB.vm.isStatics = false) (hcls : s.vm.findClass C = some cellB.cls)
    {g : JFrame} (hg : g.method = m) (hsize : g.locals.size = c.maxLocals) {argsL rest : List Value} (hlen : ∀ sig, parseMethodDescriptor y.desc = some sig → argsL.length = sig.parameters.length)
    (hstack : g.stack = argsL.reverse ++ .ref b :: rest) (hW : 2 * g.monitorRoom + (rest.map fun v => v.category).sum ≤ W9) (hdg : decode c.code g.pc = .ok (.invokevirtual index, 3))
    (hpre : ∀ vm₁, s.WarmedH vm₁ → Pre ⟨T.setVm vm₁, locs, cells, slots⟩ (Value.ref b :: argsL).toArray) :
    (∃ (v : Option Value) (vm₁ : Vm) (B : Pt), s.WarmedH vm₁ ∧ Stand p l e R s m args below meth c B.U B.locs B.cells B.slots ∧ Post ⟨T.setVm vm₁, locs, cells, slots⟩ (Value.ref b :: argsL).toArray v B ∧
      ∀ target, Steps p.tables e below (B.U.setTop { g with pc := g.pc + 3, stack := v.toList ++ rest }) target → Steps p.tables e below (T.setTop g) target) ∨
    (∃ (q : Addr) (vm₁ : Vm) (B : Pt), s.WarmedH vm₁ ∧ Stand p l e R s m args below meth c B.U B.locs B.cells B.slots ∧ PostX ⟨T.setVm vm₁, locs, cells, slots⟩ (Value.ref b :: argsL).toArray q B ∧
      Steps p.tables e below (T.setTop g) ((B.U.setTop { g with stack := rest }).pushFrame (.throwing q))) := by
  obtain ⟨mk, methM, hnamed, hmethM, hstM, habM⟩ := Cond.instanceMethod_spec hinst
  obtain ⟨m8, methM', cM, hn8, hmethM', -, -, -, -, -, -, hsigM⟩ := Cond.codeWith_spec hcode
  cases Option.some.inj (hn8.symm.trans hnamed)
  cases hmethM.symm.trans hmethM'
  obtain ⟨c2, r2, m2, q1, q2, q3, q4, kP, hkP, hkPi⟩ := Cond.selects_spec hsel
  cases hcls.symm.trans q1
  cases (State.methodFound?_of_named hnamed hy).symm.trans q2
  cases hnamed.symm.trans q3
  have hselP : selectMethod e.platform s.vm cellB.cls mk = .method mk := by rw [Launch.admits_selectMethod X.admits]; exact q4
  obtain ⟨vm₁, X₁, hstep₁⟩ := X.invokevirtual hexec hown hlink hnamed hmethM hstM hkP hkPi hy (a := b) (cell := cellB) hcell
    (fun z h => by rw [h] at hobj; cases hobj) hselP hmethM habM hkP hkPi (g := g) hg (argsL := argsL) (rest := rest) (hlen _ hsigM) hstack hdg
  rcases hK m meth c ⟨T.setVm vm₁, locs, cells, slots⟩ { g with stack := rest } (.invokevirtual index) mk (Value.ref b :: argsL).toArray X₁ hg hsize hdg hW (X₁.named hnamed) (hpre vm₁ X₁.warmed) with ⟨v, B, X', hpost, hsteps⟩ | ⟨q, B, X', hpost, hsteps⟩
  · exact Or.inl ⟨v, vm₁, B, X₁.warmed, X', hpost, fun target h => hstep₁ _ fun acts => by rw [doInvoke_state]; exact hsteps.trans h⟩
  · exact Or.inr ⟨q, vm₁, B, X₁.warmed, X', hpost, hstep₁ _ fun acts => by rw [doInvoke_state]; exact hsteps⟩
theorem vx_callSX (X : Stand p l e R s m args below meth c T locs cells slots) (hexec : p.tables.exec = Jvm.exec) {own : String} {index : Nat} {y : MethodName} {bytes : ByteArray} {maxL : Nat} {ret : Option FieldType} {hh : List (Nat × Nat × Nat × Nat)}
    (hown : s.vm.findClass own = some m.cls) (hlink : (Cond.methodLink own index y).before args s = true) (hstat : (Cond.static y).before args s = true) (hinit : (Cond.initialized y.cls).before args s = true)
    (hcode : (Cond.codeWith y bytes maxL ret hh).before args s = true) (hy : y.cls ≠ "java/lang/invoke/MethodHandle" ∧ y.cls ≠ "java/lang/invoke/VarHandle")
    {W9 : Nat} {Pre : Pt → Array Value → Prop} {Post : Pt → Array Value → Option Value → Pt → Prop} {PostX : Pt → Array Value → Addr → Pt → Prop} (hK : vx_Back l R p e below s args y 3 W9 Pre Post PostX)
    {g : JFrame} (hg : g.method = m) (hsize : g.locals.size = c.maxLocals) {argsL rest : List Value} (hlen : ∀ sig, parseMethodDescriptor y.desc = some sig → argsL.length = sig.parameters.length)
    (hstack : g.stack = argsL.reverse ++ rest) (hW : 2 * g.monitorRoom + (rest.map fun v => v.category).sum ≤ W9) (hdg : decode c.code g.pc = .ok (.invokestatic index, 3))
    (hpre : ∀ vm₁, s.WarmedH vm₁ → Pre ⟨T.setVm vm₁, locs, cells, slots⟩ argsL.toArray) :
    (∃ (v : Option Value) (vm₁ : Vm) (B : Pt), s.WarmedH vm₁ ∧ Stand p l e R s m args below meth c B.U B.locs B.cells B.slots ∧ Post ⟨T.setVm vm₁, locs, cells, slots⟩ argsL.toArray v B ∧
      ∀ target, Steps p.tables e below (B.U.setTop { g with pc := g.pc + 3, stack := v.toList ++ rest }) target → Steps p.tables e below (T.setTop g) target) ∨
    (∃ (q : Addr) (vm₁ : Vm) (B : Pt), s.WarmedH vm₁ ∧ Stand p l e R s m args below meth c B.U B.locs B.cells B.slots ∧ PostX ⟨T.setVm vm₁, locs, cells, slots⟩ argsL.toArray q B ∧
      Steps p.tables e below (T.setTop g) ((B.U.setTop { g with stack := rest }).pushFrame (.throwing q))) := by
  obtain ⟨mk, methM, cM, hnamed, hmethM, -, -, -, -, -, -, hsigM⟩ := Cond.codeWith_spec hcode
  have hstatic : methM.isStatic = true := Cond.static_spec hnamed hmethM hstat
  obtain ⟨kP, hkP, -⟩ := className_of_methodNamed hnamed
  have hinitP : kP.init = .initialized := Cond.initialized_spec (findClass_of_methodNamed hnamed) hkP hinit
  obtain ⟨vm₁, X₁, hstep₁⟩ := X.invokestatic hexec hown hlink hnamed hmethM hstatic hkP hinitP hy (g := g) hg (argsL := argsL) (rest := rest) (hlen _ hsigM) hstack hdg
  rcases hK m meth c ⟨T.setVm vm₁, locs, cells, slots⟩ { g with stack := rest } (.invokestatic index) mk argsL.toArray X₁ hg hsize hdg hW (X₁.named hnamed) (hpre vm₁ X₁.warmed) with ⟨v, B, X', hpost, hsteps⟩ | ⟨q, B, X', hpost, hsteps⟩
  · exact Or.inl ⟨v, vm₁, B, X₁.warmed, X', hpost, fun target h => hstep₁ _ fun acts => by rw [doInvoke_state]; exact hsteps.trans h⟩
  · exact Or.inr ⟨q, vm₁, B, X₁.warmed, X', hpost, hstep₁ _ fun acts => by rw [doInvoke_state]; exact hsteps⟩
theorem vx_callVW (X : Stand p l e R s m args below meth c T locs cells slots) (hexec : p.tables.exec = Jvm.exec) {own C : String} {index : Nat} {y : MethodName} {bytes : ByteArray} {maxL : Nat} {ret : Option FieldType} {hh : List (Nat × Nat × Nat × Nat)}
    (hown : s.vm.findClass own = some m.cls) (hlink : (Cond.methodLink own index y).before args s = true) (hinst : (Cond.instanceMethod y).before args s = true) (hsel : (Cond.selects C y y).before args s = true)
    (hcode : (Cond.codeWith y bytes maxL ret hh).before args s = true) (hy : y.cls ≠ "java/lang/invoke/MethodHandle" ∧ y.cls ≠ "java/lang/invoke/VarHandle")
    {W9 : Nat} {Pre : Pt → Array Value → Prop} {Post : Pt → Array Value → Option Value → Pt → Prop} (hK : Back l R p e below s args y 3 W9 Pre Post)
    {b : Addr} {cellB : Cell} (hcell : T.heap[b]? = some cellB) (hobj : cellB.vm.isStatics = false) (hcls : s.vm.findClass C = some cellB.cls)
    {g : JFrame} (hg : g.method = m) (hsize : g.locals.size = c.maxLocals) {argsL rest : List Value} (hlen : ∀ sig, parseMethodDescriptor y.desc = some sig → argsL.length = sig.parameters.length)
    (hstack : g.stack = argsL.reverse ++ .ref b :: rest) (hW : 2 * g.monitorRoom + (rest.map fun v => v.category).sum ≤ W9) (hdg : decode c.code g.pc = .ok (.invokevirtual index, 3))
    (hpre : ∀ vm₁, s.WarmedH vm₁ → Pre ⟨T.setVm vm₁, locs, cells, slots⟩ (Value.ref b :: argsL).toArray) :
    ∃ (v : Option Value) (vm₁ : Vm) (B : Pt), s.WarmedH vm₁ ∧ Stand p l e R s m args below meth c B.U B.locs B.cells B.slots ∧ Post ⟨T.setVm vm₁, locs, cells, slots⟩ (Value.ref b :: argsL).toArray v B ∧
      ∀ target, Steps p.tables e below (B.U.setTop { g with pc := g.pc + 3, stack := v.toList ++ rest }) target → Steps p.tables e below (T.setTop g) target := by
  obtain ⟨mk, methM, hnamed, hmethM, hstM, habM⟩ := Cond.instanceMethod_spec hinst
  obtain ⟨m8, methM', cM, hn8, hmethM', -, -, -, -, -, -, hsigM⟩ := Cond.codeWith_spec hcode
  cases Option.some.inj (hn8.symm.trans hnamed)
  cases hmethM.symm.trans hmethM'
  obtain ⟨c2, r2, m2, q1, q2, q3, q4, kP, hkP, hkPi⟩ := Cond.selects_spec hsel
  cases hcls.symm.trans q1
  cases (State.methodFound?_of_named hnamed hy).symm.trans q2
  cases hnamed.symm.trans q3
  have hselP : selectMethod e.platform s.vm cellB.cls mk = .method mk := by rw [Launch.admits_selectMethod X.admits]; exact q4
  obtain ⟨vm₁, X₁, hstep₁⟩ := X.invokevirtual hexec hown hlink hnamed hmethM hstM hkP hkPi hy (a := b) (cell := cellB) hcell
    (fun z h => by rw [h] at hobj; cases hobj) hselP hmethM habM hkP hkPi (g := g) hg (argsL := argsL) (rest := rest) (hlen _ hsigM) hstack hdg
  obtain ⟨v, B, X', hpost, hsteps⟩ := hK m meth c ⟨T.setVm vm₁, locs, cells, slots⟩ { g with stack := rest } (.invokevirtual index) mk (Value.ref b :: argsL).toArray X₁ hg hsize hdg hW (X₁.named hnamed) (hpre vm₁ X₁.warmed)
  exact ⟨v, vm₁, B, X₁.warmed, X', hpost, fun target h => hstep₁ _ fun acts => by rw [doInvoke_state]; exact hsteps.trans h⟩
abbrev vx_CVW (R : Room) (s : State) (args : Array Value) (own C : String) (index : Nat) (y : MethodName) (bytes : ByteArray) (maxL : Nat) (ret : Option FieldType) (hh : List (Nat × Nat × Nat × Nat)) (ws : List Cond) (rm : Room) (mc ms n : Nat) : Prop :=
  (rm.cells = mc ∧ rm.slots = ms ∧ rm.frames + 1 ≤ R.frames ∧ 8 + (maxL + 11) + rm.locals ≤ R.locals ∧ (∀ w ∈ ws, ∀ (a' : Array Value) (U : State), s.WarmedH U.vm → w.before a' U = true) ∧ Cond.codeWith y bytes maxL ret hh ∈ ws) ∧
  (Cond.codeWith y bytes maxL ret hh).before args s = true ∧ (Cond.initialized y.cls).before args s = true ∧ (y.cls ≠ "java/lang/invoke/MethodHandle" ∧ y.cls ≠ "java/lang/invoke/VarHandle") ∧
  (∀ sig, parseMethodDescriptor y.desc = some sig → n = sig.parameters.length) ∧ (Cond.methodLink own index y).before args s = true ∧ (Cond.instanceMethod y).before args s = true ∧ (Cond.selects C y y).before args s = true
theorem vx_cwVW {own C : String} {index maxL mc ms : Nat} {y : MethodName} {bytes : ByteArray} {ret : Option FieldType} {hh : List (Nat × Nat × Nat × Nat)} {Ts ws ws' : List Cond} {rm : Room} (n : Nat) (ht : ∀ w ∈ Ts, w.before args s = true) (hT : GoodIn Ts (wsV own index C y ws)) (hw : ws = Cond.codeWith y bytes maxL ret hh :: ws') (hrc : rm.cells = mc) (hrs : rm.slots = ms)
    (hd : y.cls = C ∧ y.cls ≠ "java/lang/invoke/MethodHandle" ∧ y.cls ≠ "java/lang/invoke/VarHandle" ∧ (parseMethodDescriptor y.desc).map (fun d => d.parameters.length) = some n) (hR : rm.frames + 1 ≤ R.frames ∧ 8 + (maxL + 11) + rm.locals ≤ R.locals) :
    vx_CVW R s args own C index y bytes maxL ret hh ws rm mc ms n := by
  obtain ⟨hC, hd⟩ := hd
  subst hC
  have ok : ∀ w ∈ wsV own index y.cls y ws, w.before args s = true := fun w h => ht w (hT w h).1
  have hG : GoodIn Ts ws := fun w h => hT w (by unfold wsV; exact List.mem_append_right _ h)
  have hc : Cond.codeWith y bytes maxL ret hh ∈ ws := by rw [hw]; exact List.mem_cons_self
  refine ⟨⟨hrc, hrs, hR.1, hR.2, pay_in ht hG, hc⟩, ht _ (hG _ hc).1, ok _ (by simp [wsV]), ⟨hd.1, hd.2.1⟩, fun sig h => ?_, ok _ (by simp [wsV]), ok _ (by simp [wsV]), ok _ (by simp [wsV])⟩
  have h2 := hd.2.2
  rw [h] at h2
  exact (Option.some.inj h2).symm
theorem vx_runVW {y : MethodName} {bytes cc : ByteArray} {maxL nL mc ms n index : Nat} {ret : Option FieldType} {hh : List (Nat × Nat × Nat × Nat)} {ws : List Cond} {rm : Room} {Pc : Array Value → State → Prop} {Qc : Array Value → State → Outcome → State → Prop} {free : Addr → Prop} {Ts : List Cond} {own C : String} {b : Addr} {As rest : List Value} {g : JFrame}
    (S : CallFix p m c cc nL s args Ts own) (hM : Met l y ws rm Pc Qc mc ms free) (cw : vx_CVW R s args own C index y bytes maxL ret hh ws rm mc ms n) (hp : PreV s H C b Pc As)
    (hg : g.method = m) (hn : As.length = n) (hsize : g.locals.size = nL) (hstack : g.stack = As.reverse ++ .ref b :: rest) (hW : 2 * g.monitorRoom + (rest.map fun v => v.category).sum ≤ 8) (hdg : decode cc g.pc = .ok (.invokevirtual index, 3)) (hf : cells + mc ≤ R.cells ∧ slots + ms ≤ R.slots) :
    va_Run p l e R s m args below meth c H locs cells slots mc ms g rest (Qc (Value.ref b :: As).toArray) free := by
  obtain ⟨⟨hrc, hrs, hfr, hlo, hws, hcw⟩, hcode, hini, hy, hlen, hl, hin, hse⟩ := cw
  have hK : Back l R p e below s args y 3 8 (PreOf R mc ms Pc) (PostOf Qc mc ms free) := va_backW (hh := hh) (bytes := bytes) (maxL := maxL) (ret := ret) hM hp.1 hrc hrs hfr hlo hws hcw (fun a' U hW => word_at hW (Or.inl (by first | rfl | simp [Cond.onTables, Cond.keeps, Cond.steady])) hini)
  obtain ⟨hx, hb, hml, ho, -⟩ := S
  obtain ⟨-, ⟨cellB, hcB, hoB, hclB⟩, hPc⟩ := hp
  intro T hT X
  obtain ⟨v, vm₁, ⟨U', l2, c2, s2⟩, hW₁, X', ⟨g', mk, t, L, e1, e2, hq, h1, hL, h2, h3⟩, st⟩ := vx_callVW X hx (C := C) (hh := hh) (bytes := bytes) (maxL := maxL) (ret := ret) ho hl hin hse hcode hy hK (by rw [hT]; exact hcB) hoB hclB hg (hsize.trans hml.symm) (argsL := As) (rest := rest) (fun sig h => hn.trans (hlen sig h)) hstack hW (by rw [hb]; exact hdg)
    (fun vm₁ hW₁ => ⟨hf.1, hf.2, hPc (T.setVm vm₁) hT hW₁⟩)
  dsimp only [Pt.U, Pt.locs, Pt.cells, Pt.slots] at X' e1 e2 h1 h2 h3 st
  subst h1; subst h2; subst h3
  exact ⟨v, (T.setVm vm₁).calling g' mk (Value.ref b :: As).toArray, t, U', L, hT, X', hL, e1, e2, hq, st⟩
section
variable {y : MethodName} {bytes cc : ByteArray} {maxL nL mc ms n index : Nat} {ret : Option FieldType} {ws : List Cond} {rm : Room} {Pc : Array Value → State → Prop} {Qc : Array Value → State → Outcome → State → Prop} {XC : String → State → State → Prop} {free : Addr → Prop} {Ts : List Cond} {own C : String} {b : Addr} {As rest : List Value} {g : JFrame}
theorem vx_runVX {hh : List (Nat × Nat × Nat × Nat)} (S : CallFix p m c cc nL s args Ts own) (hM : vx_Met l y ws rm Pc Qc XC mc ms free) (cw : vx_CVW R s args own C index y bytes maxL ret hh ws rm mc ms n) (hp : PreV s H C b Pc As)
    (hg : g.method = m) (hn : As.length = n) (hsize : g.locals.size = nL) (hstack : g.stack = As.reverse ++ .ref b :: rest) (hW : 2 * g.monitorRoom + (rest.map fun v => v.category).sum ≤ 8) (hdg : decode cc g.pc = .ok (.invokevirtual index, 3)) (hf : cells + mc ≤ R.cells ∧ slots + ms ≤ R.slots) :
    vx_Run p l e R s m args below meth c H locs cells slots mc ms g rest (Qc (Value.ref b :: As).toArray) XC free := by
  obtain ⟨⟨hrc, hrs, hfr, hlo, hws, hcw⟩, hcode, hini, hy, hlen, hl, hin, hse⟩ := cw
  have hK : vx_Back l R p e below s args y 3 8 (PreOf R mc ms Pc) (PostOf Qc mc ms free) (vx_Post XC mc ms free) := vx_backW (hh := hh) (bytes := bytes) (maxL := maxL) (ret := ret) hM hp.1 hrc hrs hfr hlo hws hcw (fun a' U hW => word_at hW (Or.inl (by first | rfl | simp [Cond.onTables, Cond.keeps, Cond.steady])) hini)
  obtain ⟨hx, hb, hml, ho, -⟩ := S
  obtain ⟨-, ⟨cellB, hcB, hoB, hclB⟩, hPc⟩ := hp
  intro T hT X
  rcases vx_callVX X hx (C := C) (hh := hh) (bytes := bytes) (maxL := maxL) (ret := ret) ho hl hin hse hcode hy hK (by rw [hT]; exact hcB) hoB hclB hg (hsize.trans hml.symm) (argsL := As) (rest := rest) (fun sig h => hn.trans (hlen sig h)) hstack hW (by rw [hb]; exact hdg)
    (fun vm₁ hW₁ => ⟨hf.1, hf.2, hPc (T.setVm vm₁) hT hW₁⟩) with ⟨v, vm₁, ⟨U', l2, c2, s2⟩, hW₁, X', ⟨g', mk, t, L, e1, e2, hq, h1, hL, h2, h3⟩, st⟩ | ⟨q, vm₁, ⟨U', l2, c2, s2⟩, hW₁, X', ⟨g', mk, t, L, E, ce, e1, e2, hq, hce, hcv, hcl, h1, hL, h2, h3⟩, st⟩
  · dsimp only [Pt.U, Pt.locs, Pt.cells, Pt.slots] at X' e1 e2 h1 h2 h3 st
    subst h1; subst h2; subst h3
    exact Or.inl ⟨v, (T.setVm vm₁).calling g' mk (Value.ref b :: As).toArray, t, U', L, hT, X', hL, e1, e2, hq, st⟩
  · dsimp only [Pt.U, Pt.locs, Pt.cells, Pt.slots] at X' e1 e2 h1 h2 h3 st hcl
    subst h1; subst h2; subst h3
    exact Or.inr ⟨q, (T.setVm vm₁).calling g' mk (Value.ref b :: As).toArray, t, U', L, E, ce, hT, X', hL, e1, e2, hq, hce, hcv, vx_cls hW₁ hcl, st⟩
theorem vx_runSX {hh : List (Nat × Nat × Nat × Nat)} (S : CallFix p m c cc nL s args Ts own) (hM : vx_Met l y ws rm Pc Qc XC mc ms free) (cw : vx_CSW R s args own index y bytes maxL ret hh ws rm mc ms n) (hp : PreS s H Pc As)
    (hg : g.method = m) (hn : As.length = n) (hsize : g.locals.size = nL) (hstack : g.stack = As.reverse ++ rest) (hW : 2 * g.monitorRoom + (rest.map fun v => v.category).sum ≤ 8) (hdg : decode cc g.pc = .ok (.invokestatic index, 3)) (hf : cells + mc ≤ R.cells ∧ slots + ms ≤ R.slots) :
    vx_Run p l e R s m args below meth c H locs cells slots mc ms g rest (Qc As.toArray) XC free := by
  obtain ⟨⟨hrc, hrs, hfr, hlo, hws, hcw⟩, hcode, hini, hy, hlen, hl, hstt⟩ := cw
  have hK : vx_Back l R p e below s args y 3 8 (PreOf R mc ms Pc) (PostOf Qc mc ms free) (vx_Post XC mc ms free) := vx_backW (hh := hh) (bytes := bytes) (maxL := maxL) (ret := ret) hM hp.1 hrc hrs hfr hlo hws hcw (fun a' U hW => word_at hW (Or.inl (by first | rfl | simp [Cond.onTables, Cond.keeps, Cond.steady])) hini)
  obtain ⟨hx, hb, hml, ho, -⟩ := S
  intro T hT X
  rcases vx_callSX X hx (hh := hh) (bytes := bytes) (maxL := maxL) (ret := ret) ho hl hstt hini hcode hy hK hg (hsize.trans hml.symm) (argsL := As) (rest := rest) (fun sig h => hn.trans (hlen sig h)) hstack hW (by rw [hb]; exact hdg)
    (fun vm₁ hW₁ => ⟨hf.1, hf.2, hp.2 (T.setVm vm₁) hT hW₁⟩) with ⟨v, vm₁, ⟨U', l2, c2, s2⟩, hW₁, X', ⟨g', mk, t, L, e1, e2, hq, h1, hL, h2, h3⟩, st⟩ | ⟨q, vm₁, ⟨U', l2, c2, s2⟩, hW₁, X', ⟨g', mk, t, L, E, ce, e1, e2, hq, hce, hcv, hcl, h1, hL, h2, h3⟩, st⟩
  · dsimp only [Pt.U, Pt.locs, Pt.cells, Pt.slots] at X' e1 e2 h1 h2 h3 st
    subst h1; subst h2; subst h3
    exact Or.inl ⟨v, (T.setVm vm₁).calling g' mk As.toArray, t, U', L, hT, X', hL, e1, e2, hq, st⟩
  · dsimp only [Pt.U, Pt.locs, Pt.cells, Pt.slots] at X' e1 e2 h1 h2 h3 st hcl
    subst h1; subst h2; subst h3
    exact Or.inr ⟨q, (T.setVm vm₁).calling g' mk As.toArray, t, U', L, E, ce, hT, X', hL, e1, e2, hq, hce, hcv, vx_cls hW₁ hcl, st⟩
end
end VXH
theorem vx_ofWH {l : Launch} {y : MethodName} {ws ws' : List Cond} {rm : Room} {Pc : Array Value → State → Prop} {Qc : Array Value → State → Outcome → State → Prop} {XC : String → State → State → Prop} {mc ms : Nat} {free : Addr → Prop} {cc : ByteArray} {maxL : Nat} {ret : Option FieldType} {hh : List (Nat × Nat × Nat × Nat)}
    (hy : plainName y.cls = true) (hw : ws = Cond.codeWith y cc maxL ret hh :: ws')
    (body : ∀ p e s m args below meth c s₁, BodyLoose p l y (headSpec ws rm) cc maxL ret e s m args below meth c s₁ → c.maxLocals = maxL → Pc args s →
      W p l e (headSpec ws rm).room s m args below meth c s.heap [] 0 0 (vx_MQ below Qc XC args s mc ms free) (entryFrame m args maxL)) : vx_Met l y ws rm Pc Qc XC mc ms free := by
  refine MetFree.of_bodyS (code := cc) (maxLocals := maxL) (ret := ret) hy ?_ ?_
  · intro args s m h hn
    obtain ⟨m9, meth, c, hn9, h1, h2, h3, h4, -, h5, h6, -⟩ := Cond.codeWith_spec (atoms_spec (ws := ws) h _ (by rw [hw]; exact List.mem_cons_self))
    cases hn.symm.trans hn9
    exact ⟨meth, c, h1, h2, h3, h4, h5, h6⟩
  · intro p e s m args below meth c s₁ B hml hP _
    have hh0 : s₁.heap = s.heap := by rw [B.state]; rfl
    obtain ⟨t, a1, o, b1, b2, b3⟩ := body p e s m args below meth c s₁ B hml hP s₁ hh0 (Stand.of_body B)
    exact ⟨t, o, a1, b1, b2, b3⟩
/-! ===== END ===== -/
end
section
/-! ===== BEGIN printed: names, fields, word lists, decode rows ===== -/
def RX0 : String := "BoundTables$Asker"
def TX0 : u_T := fun k => match k with
  | 0 => ("BoundTables$Asker", "types", "LBoundTables$Types;", true)
  | 1 => ("BoundTables$Asker", "newBoundCount", "[I", true)
  | 2 => ("BoundTables$Asker", "newBound", "[I", true)
  | 3 => ("BoundTables$Asker", "newFloor", "[I", true)
  | 4 => ("BoundTables$Asker", "ownArgs", "[I", true)
  | 5 => ("BoundTables$Asker", "ownBound", "[I", true)
  | 6 => ("BoundTables$Asker", "frames", "[I", true)
  | 7 => ("BoundTables$Asker", "table", "LBoundTables$Table;", false)
  | 8 => ("BoundTables$Asker", "ownFirst", "I", false)
  | 9 => ("BoundTables$Asker", "any", "I", false)
  | 10 => ("BoundTables$Asker", "fuel", "I", false)
  | 11 => ("BoundTables$Asker", "asked", "I", false)
  | 12 => ("BoundTables$Asker", "deepest", "I", false)
  | 13 => ("BoundTables$Asker", "newCount", "I", false)
  | _ => ("BoundTables$Asker", "together", "I", false)
def tyX0 : Nat → FieldType := fun k => match k with
  | 0 => .object "BoundTables$Types"
  | 1 => .array .int
  | 2 => .array .int
  | 3 => .array .int
  | 4 => .array .int
  | 5 => .array .int
  | 6 => .array .int
  | 7 => .object "BoundTables$Table"
  | 8 => .int
  | 9 => .int
  | 10 => .int
  | 11 => .int
  | 12 => .int
  | 13 => .int
  | _ => .int
abbrev wsX00 : List Cond := u_ws RX0 TX0 15
theorem nmX0 : ∀ a, a < 15 → ∀ b, b < 15 → a ≠ b → (TX0 a).2.1 ≠ (TX0 b).2.1 := by decide +kernel
theorem tyX0_ok : ∀ k, k < 15 → parseFieldDescriptor (TX0 k).2.2.1 = some (tyX0 k) := by decide +kernel
abbrev cX0_init : ByteArray := prog_2_method_1_code
def yX0_init : MethodName := ⟨RX0, "<init>", "(LBoundTables$Table;)V"⟩
abbrev cX0_startOver : ByteArray := prog_2_method_2_code
def yX0_startOver : MethodName := ⟨RX0, "startOver", "(LBoundTables$Table;I)V"⟩
abbrev cX0_tellOwnBounds : ByteArray := prog_2_method_3_code
def yX0_tellOwnBounds : MethodName := ⟨RX0, "tellOwnBounds", "(I)V"⟩
abbrev cX0_nodeOf : ByteArray := prog_2_method_4_code
def yX0_nodeOf : MethodName := ⟨RX0, "nodeOf", "([III)I"⟩
abbrev cX0_nodeAbove : ByteArray := prog_2_method_5_code
def yX0_nodeAbove : MethodName := ⟨RX0, "nodeAbove", "(II)I"⟩
abbrev cX0_below : ByteArray := prog_2_method_6_code
def yX0_below : MethodName := ⟨RX0, "below", "(III)I"⟩
abbrev cX0_boundsBelow : ByteArray := prog_2_method_7_code
def yX0_boundsBelow : MethodName := ⟨RX0, "boundsBelow", "(III)I"⟩
abbrev cX0_classBelow : ByteArray := prog_2_method_8_code
def yX0_classBelow : MethodName := ⟨RX0, "classBelow", "(III)I"⟩
abbrev cX0_argBelow : ByteArray := prog_2_method_9_code
def yX0_argBelow : MethodName := ⟨RX0, "argBelow", "(III)I"⟩
abbrev cX0_captureArgs : ByteArray := prog_2_method_10_code
def yX0_captureArgs : MethodName := ⟨RX0, "captureArgs", "(II)Z"⟩
abbrev cX0_bind : ByteArray := prog_2_method_11_code
def yX0_bind : MethodName := ⟨RX0, "bind", "(III)Z"⟩
abbrev cX0_addBound : ByteArray := prog_2_method_12_code
def yX0_addBound : MethodName := ⟨RX0, "addBound", "(II)V"⟩
abbrev cX0_raise : ByteArray := prog_2_method_13_code
def yX0_raise : MethodName := ⟨RX0, "raise", "(III)I"⟩
abbrev cX0_count : ByteArray := prog_2_method_14_code
def yX0_count : MethodName := ⟨RX0, "count", "(I)Z"⟩
abbrev cX0_floorOf : ByteArray := prog_2_method_15_code
def yX0_floorOf : MethodName := ⟨RX0, "floorOf", "(I)I"⟩
abbrev cX0_boundOf : ByteArray := prog_2_method_16_code
def yX0_boundOf : MethodName := ⟨RX0, "boundOf", "(II)I"⟩
abbrev cX0_boundOfNew : ByteArray := prog_2_method_17_code
def yX0_boundOfNew : MethodName := ⟨RX0, "boundOfNew", "(II)I"⟩
def RX1 : String := "BoundTables$Overs"
def TX1 : u_T := fun k => match k with
  | 0 => ("BoundTables$Overs", "start", "[I", true)
  | 1 => ("BoundTables$Overs", "length", "[I", true)
  | 2 => ("BoundTables$Overs", "argStart", "[I", true)
  | 3 => ("BoundTables$Overs", "argLength", "[I", true)
  | 4 => ("BoundTables$Overs", "args", "I", false)
  | 5 => ("BoundTables$Overs", "code", "[I", false)
  | _ => ("BoundTables$Overs", "used", "I", false)
def tyX1 : Nat → FieldType := fun k => match k with
  | 0 => .array .int
  | 1 => .array .int
  | 2 => .array .int
  | 3 => .array .int
  | 4 => .int
  | 5 => .array .int
  | _ => .int
abbrev wsX10 : List Cond := u_ws RX1 TX1 7
theorem nmX1 : ∀ a, a < 7 → ∀ b, b < 7 → a ≠ b → (TX1 a).2.1 ≠ (TX1 b).2.1 := by decide +kernel
theorem tyX1_ok : ∀ k, k < 7 → parseFieldDescriptor (TX1 k).2.2.1 = some (tyX1 k) := by decide +kernel
abbrev cX1_init : ByteArray := prog_3_method_1_code
def yX1_init : MethodName := ⟨RX1, "<init>", "()V"⟩
abbrev cX1_startOver : ByteArray := prog_3_method_2_code
def yX1_startOver : MethodName := ⟨RX1, "startOver", "()V"⟩
abbrev cX1_startArgs : ByteArray := prog_3_method_3_code
def yX1_startArgs : MethodName := ⟨RX1, "startArgs", "()V"⟩
abbrev cX1_addArg : ByteArray := prog_3_method_4_code
def yX1_addArg : MethodName := ⟨RX1, "addArg", "(II)V"⟩
abbrev cX1_addOwn : ByteArray := prog_3_method_5_code
def yX1_addOwn : MethodName := ⟨RX1, "addOwn", "(III)V"⟩
abbrev cX1_addAny : ByteArray := prog_3_method_6_code
def yX1_addAny : MethodName := ⟨RX1, "addAny", "(I)V"⟩
abbrev cX1_inherit : ByteArray := prog_3_method_7_code
def yX1_inherit : MethodName := ⟨RX1, "inherit", "(III[I)Z"⟩
abbrev cX1_sizeWithArgs : ByteArray := prog_3_method_8_code
def yX1_sizeWithArgs : MethodName := ⟨RX1, "sizeWithArgs", "(II)I"⟩
abbrev cX1_writeArg : ByteArray := prog_3_method_9_code
def yX1_writeArg : MethodName := ⟨RX1, "writeArg", "(I[I)V"⟩
abbrev cX1_isSame : ByteArray := prog_3_method_10_code
def yX1_isSame : MethodName := ⟨RX1, "isSame", "(IIII)Z"⟩
abbrev cX1_makeRoom : ByteArray := prog_3_method_11_code
def yX1_makeRoom : MethodName := ⟨RX1, "makeRoom", "(I)V"⟩
abbrev cX1_write : ByteArray := prog_3_method_12_code
def yX1_write : MethodName := ⟨RX1, "write", "(I)V"⟩
def RX2 : String := "BoundTables$Page"
def TX2 : u_T := fun k => match k with
  | 0 => ("BoundTables$Page", "bytes", "[I", true)
  | 1 => ("BoundTables$Page", "openNode", "[I", true)
  | 2 => ("BoundTables$Page", "openNext", "[I", true)
  | 3 => ("BoundTables$Page", "length", "I", false)
  | _ => ("BoundTables$Page", "open", "I", false)
def tyX2 : Nat → FieldType := fun k => match k with
  | 0 => .array .int
  | 1 => .array .int
  | 2 => .array .int
  | 3 => .int
  | _ => .int
abbrev wsX20 : List Cond := u_ws RX2 TX2 5
theorem nmX2 : ∀ a, a < 5 → ∀ b, b < 5 → a ≠ b → (TX2 a).2.1 ≠ (TX2 b).2.1 := by decide +kernel
theorem tyX2_ok : ∀ k, k < 5 → parseFieldDescriptor (TX2 k).2.2.1 = some (tyX2 k) := by decide +kernel
abbrev cX2_init : ByteArray := prog_4_method_1_code
def yX2_init : MethodName := ⟨RX2, "<init>", "()V"⟩
abbrev cX2_writeType : ByteArray := prog_4_method_2_code
def yX2_writeType : MethodName := ⟨RX2, "writeType", "(LBoundTables$Types;LBoundTables$Table;I)I"⟩
abbrev cX2_openType : ByteArray := prog_4_method_3_code
def yX2_openType : MethodName := ⟨RX2, "openType", "(LBoundTables$Types;LBoundTables$Table;I)V"⟩
abbrev cX2_writeHead : ByteArray := prog_4_method_4_code
def yX2_writeHead : MethodName := ⟨RX2, "writeHead", "(LBoundTables$Table;I)V"⟩
abbrev cX2_writeName : ByteArray := prog_4_method_5_code
def yX2_writeName : MethodName := ⟨RX2, "writeName", "(J)V"⟩
abbrev cX2_writeNumber : ByteArray := prog_4_method_6_code
def yX2_writeNumber : MethodName := ⟨RX2, "writeNumber", "(I)V"⟩
abbrev cX2_write : ByteArray := prog_4_method_7_code
def yX2_write : MethodName := ⟨RX2, "write", "(I)V"⟩
def RX3 : String := "BoundTables$Reader"
def TX3 : u_T := fun k => match k with
  | 0 => ("BoundTables$Reader", "tape", "LBoundTables$Tape;", true)
  | 1 => ("BoundTables$Reader", "question", "[I", true)
  | 2 => ("BoundTables$Reader", "table", "LBoundTables$Table;", false)
  | 3 => ("BoundTables$Reader", "told", "[I", false)
  | 4 => ("BoundTables$Reader", "toldLength", "I", false)
  | 5 => ("BoundTables$Reader", "owner", "I", false)
  | 6 => ("BoundTables$Reader", "second", "I", false)
  | 7 => ("BoundTables$Reader", "target", "I", false)
  | 8 => ("BoundTables$Reader", "found", "I", false)
  | 9 => ("BoundTables$Reader", "foundAt", "I", false)
  | _ => ("BoundTables$Reader", "miscounted", "Z", false)
def tyX3 : Nat → FieldType := fun k => match k with
  | 0 => .object "BoundTables$Tape"
  | 1 => .array .int
  | 2 => .object "BoundTables$Table"
  | 3 => .array .int
  | 4 => .int
  | 5 => .int
  | 6 => .int
  | 7 => .int
  | 8 => .int
  | 9 => .int
  | _ => .boolean
abbrev wsX30 : List Cond := u_ws RX3 TX3 11
theorem nmX3 : ∀ a, a < 11 → ∀ b, b < 11 → a ≠ b → (TX3 a).2.1 ≠ (TX3 b).2.1 := by decide +kernel
theorem tyX3_ok : ∀ k, k < 11 → parseFieldDescriptor (TX3 k).2.2.1 = some (tyX3 k) := by decide +kernel
abbrev cX3_init : ByteArray := prog_5_method_1_code
def yX3_init : MethodName := ⟨RX3, "<init>", "(LBoundTables$Tape;LBoundTables$Table;)V"⟩
abbrev cX3_start : ByteArray := prog_5_method_2_code
def yX3_start : MethodName := ⟨RX3, "start", "(LBoundTables$Table;[I)V"⟩
abbrev cX3_readTable : ByteArray := prog_5_method_3_code
def yX3_readTable : MethodName := ⟨RX3, "readTable", "(LBoundTables$Table;)Z"⟩
abbrev cX3_readQuestion : ByteArray := prog_5_method_4_code
def yX3_readQuestion : MethodName := ⟨RX3, "readQuestion", "(LBoundTables$Table;)Z"⟩
abbrev cX3_readPlace : ByteArray := prog_5_method_5_code
def yX3_readPlace : MethodName := ⟨RX3, "readPlace", "(LBoundTables$Table;)Z"⟩
abbrev cX3_opening : ByteArray := prog_5_method_6_code
def yX3_opening : MethodName := ⟨RX3, "opening", "()Z"⟩
abbrev cX3_declaration : ByteArray := prog_5_method_7_code
def yX3_declaration : MethodName := ⟨RX3, "declaration", "()Z"⟩
abbrev cX3_parameterNames : ByteArray := prog_5_method_8_code
def yX3_parameterNames : MethodName := ⟨RX3, "parameterNames", "()Z"⟩
abbrev cX3_bounds : ByteArray := prog_5_method_9_code
def yX3_bounds : MethodName := ⟨RX3, "bounds", "()Z"⟩
abbrev cX3_isBehindBound : ByteArray := prog_5_method_10_code
def yX3_isBehindBound : MethodName := ⟨RX3, "isBehindBound", "(I)Z"⟩
abbrev cX3_boundName : ByteArray := prog_5_method_11_code
def yX3_boundName : MethodName := ⟨RX3, "boundName", "()I"⟩
abbrev cX3_supers : ByteArray := prog_5_method_12_code
def yX3_supers : MethodName := ⟨RX3, "supers", "()Z"⟩
abbrev cX3_type : ByteArray := prog_5_method_13_code
def yX3_type : MethodName := ⟨RX3, "type", "(IIZ)Z"⟩
abbrev cX3_args : ByteArray := prog_5_method_14_code
def yX3_args : MethodName := ⟨RX3, "args", "(IZ)I"⟩
abbrev cX3_wild : ByteArray := prog_5_method_15_code
def yX3_wild : MethodName := ⟨RX3, "wild", "(IZ)Z"⟩
abbrev cX3_behindType : ByteArray := prog_5_method_16_code
def yX3_behindType : MethodName := ⟨RX3, "behindType", "(Z)Z"⟩
abbrev cX3_tell : ByteArray := prog_5_method_17_code
def yX3_tell : MethodName := ⟨RX3, "tell", "(I)V"⟩
abbrev cX3_fail : ByteArray := prog_5_method_18_code
def yX3_fail : MethodName := ⟨RX3, "fail", "(I)Z"⟩
def RX4 : String := "BoundTables$Table"
def TX4 : u_T := fun k => match k with
  | 0 => ("BoundTables$Table", "className", "[J", true)
  | 1 => ("BoundTables$Table", "firstParameter", "[I", true)
  | 2 => ("BoundTables$Table", "parameterCount", "[I", true)
  | 3 => ("BoundTables$Table", "superCount", "[I", true)
  | 4 => ("BoundTables$Table", "superStart", "[I", true)
  | 5 => ("BoundTables$Table", "parameterName", "[J", true)
  | 6 => ("BoundTables$Table", "parameterClass", "[I", true)
  | 7 => ("BoundTables$Table", "boundCount", "[I", true)
  | 8 => ("BoundTables$Table", "boundStart", "[I", true)
  | 9 => ("BoundTables$Table", "boundLength", "[I", true)
  | 10 => ("BoundTables$Table", "code", "[I", true)
  | 11 => ("BoundTables$Table", "overs", "LBoundTables$Overs;", true)
  | 12 => ("BoundTables$Table", "classes", "I", false)
  | 13 => ("BoundTables$Table", "parameters", "I", false)
  | _ => ("BoundTables$Table", "codeLength", "I", false)
def tyX4 : Nat → FieldType := fun k => match k with
  | 0 => .array .long
  | 1 => .array .int
  | 2 => .array .int
  | 3 => .array .int
  | 4 => .array .int
  | 5 => .array .long
  | 6 => .array .int
  | 7 => .array .int
  | 8 => .array .int
  | 9 => .array .int
  | 10 => .array .int
  | 11 => .object "BoundTables$Overs"
  | 12 => .int
  | 13 => .int
  | _ => .int
abbrev wsX40 : List Cond := u_ws RX4 TX4 15
theorem nmX4 : ∀ a, a < 15 → ∀ b, b < 15 → a ≠ b → (TX4 a).2.1 ≠ (TX4 b).2.1 := by decide +kernel
theorem tyX4_ok : ∀ k, k < 15 → parseFieldDescriptor (TX4 k).2.2.1 = some (tyX4 k) := by decide +kernel
abbrev cX4_init : ByteArray := prog_6_method_1_code
def yX4_init : MethodName := ⟨RX4, "<init>", "()V"⟩
abbrev cX4_startOver : ByteArray := prog_6_method_2_code
def yX4_startOver : MethodName := ⟨RX4, "startOver", "()V"⟩
abbrev cX4_addClass : ByteArray := prog_6_method_3_code
def yX4_addClass : MethodName := ⟨RX4, "addClass", "(J)I"⟩
abbrev cX4_addParameter : ByteArray := prog_6_method_4_code
def yX4_addParameter : MethodName := ⟨RX4, "addParameter", "(IJ)V"⟩
abbrev cX4_addBound : ByteArray := prog_6_method_5_code
def yX4_addBound : MethodName := ⟨RX4, "addBound", "(III)V"⟩
abbrev cX4_addSuper : ByteArray := prog_6_method_6_code
def yX4_addSuper : MethodName := ⟨RX4, "addSuper", "(II)V"⟩
abbrev cX4_findClass : ByteArray := prog_6_method_7_code
def yX4_findClass : MethodName := ⟨RX4, "findClass", "(J)I"⟩
abbrev cX4_findParameter : ByteArray := prog_6_method_8_code
def yX4_findParameter : MethodName := ⟨RX4, "findParameter", "(IJ)I"⟩
abbrev cX4_headOf : ByteArray := prog_6_method_9_code
def yX4_headOf : MethodName := ⟨RX4, "headOf", "(IJ)I"⟩
abbrev cX4_arity : ByteArray := prog_6_method_10_code
def yX4_arity : MethodName := ⟨RX4, "arity", "(I)I"⟩
abbrev cX4_endOfPart : ByteArray := prog_6_method_11_code
def yX4_endOfPart : MethodName := ⟨RX4, "endOfPart", "(I)I"⟩
abbrev cX4_overLength : ByteArray := prog_6_method_12_code
def yX4_overLength : MethodName := ⟨RX4, "overLength", "(II)I"⟩
abbrev cX4_overStart : ByteArray := prog_6_method_13_code
def yX4_overStart : MethodName := ⟨RX4, "overStart", "(II)I"⟩
abbrev cX4_countOver : ByteArray := prog_6_method_14_code
def yX4_countOver : MethodName := ⟨RX4, "countOver", "(I)I"⟩
abbrev cX4_closeClass : ByteArray := prog_6_method_15_code
def yX4_closeClass : MethodName := ⟨RX4, "closeClass", "(I)Z"⟩
abbrev cX4_inheritAll : ByteArray := prog_6_method_16_code
def yX4_inheritAll : MethodName := ⟨RX4, "inheritAll", "(II)Z"⟩
def RX5 : String := "BoundTables$Tape"
def TX5 : u_T := fun k => match k with
  | 0 => ("BoundTables$Tape", "bytes", "[I", true)
  | 1 => ("BoundTables$Tape", "kinds", "[I", true)
  | 2 => ("BoundTables$Tape", "places", "[I", true)
  | 3 => ("BoundTables$Tape", "names", "[J", true)
  | 4 => ("BoundTables$Tape", "length", "I", false)
  | 5 => ("BoundTables$Tape", "now", "I", false)
  | 6 => ("BoundTables$Tape", "kind", "I", false)
  | 7 => ("BoundTables$Tape", "place", "I", false)
  | _ => ("BoundTables$Tape", "name", "J", false)
def tyX5 : Nat → FieldType := fun k => match k with
  | 0 => .array .int
  | 1 => .array .int
  | 2 => .array .int
  | 3 => .array .long
  | 4 => .int
  | 5 => .int
  | 6 => .int
  | 7 => .int
  | _ => .long
abbrev wsX50 : List Cond := u_ws RX5 TX5 9
theorem nmX5 : ∀ a, a < 9 → ∀ b, b < 9 → a ≠ b → (TX5 a).2.1 ≠ (TX5 b).2.1 := by decide +kernel
theorem tyX5_ok : ∀ k, k < 9 → parseFieldDescriptor (TX5 k).2.2.1 = some (tyX5 k) := by decide +kernel
abbrev cX5_init : ByteArray := prog_7_method_1_code
def yX5_init : MethodName := ⟨RX5, "<init>", "()V"⟩
abbrev cX5_append : ByteArray := prog_7_method_2_code
def yX5_append : MethodName := ⟨RX5, "append", "(JI)V"⟩
abbrev cX5_cut : ByteArray := prog_7_method_3_code
def yX5_cut : MethodName := ⟨RX5, "cut", "()V"⟩
abbrev cX5_nameSize : ByteArray := prog_7_method_4_code
def yX5_nameSize : MethodName := ⟨RX5, "nameSize", "(I)I"⟩
abbrev cX5_nameOf : ByteArray := prog_7_method_5_code
def yX5_nameOf : MethodName := ⟨RX5, "nameOf", "(II)J"⟩
abbrev cX5_kindOf : ByteArray := prog_7_method_6_code
def yX5_kindOf : MethodName := ⟨RX5, "kindOf", "(IIJ)I"⟩
abbrev cX5_isLetter : ByteArray := prog_7_method_7_code
def yX5_isLetter : MethodName := ⟨RX5, "isLetter", "(I)Z"⟩
abbrev cX5_isNameByte : ByteArray := prog_7_method_8_code
def yX5_isNameByte : MethodName := ⟨RX5, "isNameByte", "(I)Z"⟩
abbrev cX5_opensArgs : ByteArray := prog_7_method_9_code
def yX5_opensArgs : MethodName := ⟨RX5, "opensArgs", "()Z"⟩
abbrev cX5_step : ByteArray := prog_7_method_10_code
def yX5_step : MethodName := ⟨RX5, "step", "()V"⟩
def RX6 : String := "BoundTables$Types"
def TX6 : u_T := fun k => match k with
  | 0 => ("BoundTables$Types", "heads", "[I", true)
  | 1 => ("BoundTables$Types", "firstPart", "[I", true)
  | 2 => ("BoundTables$Types", "nextInChain", "[I", true)
  | 3 => ("BoundTables$Types", "parts", "[I", true)
  | 4 => ("BoundTables$Types", "chains", "[I", true)
  | 5 => ("BoundTables$Types", "stack", "[I", true)
  | 6 => ("BoundTables$Types", "table", "LBoundTables$Table;", false)
  | 7 => ("BoundTables$Types", "count", "I", false)
  | _ => ("BoundTables$Types", "partCount", "I", false)
def tyX6 : Nat → FieldType := fun k => match k with
  | 0 => .array .int
  | 1 => .array .int
  | 2 => .array .int
  | 3 => .array .int
  | 4 => .array .int
  | 5 => .array .int
  | 6 => .object "BoundTables$Table"
  | 7 => .int
  | _ => .int
abbrev wsX60 : List Cond := u_ws RX6 TX6 9
theorem nmX6 : ∀ a, a < 9 → ∀ b, b < 9 → a ≠ b → (TX6 a).2.1 ≠ (TX6 b).2.1 := by decide +kernel
theorem tyX6_ok : ∀ k, k < 9 → parseFieldDescriptor (TX6 k).2.2.1 = some (tyX6 k) := by decide +kernel
abbrev cX6_init : ByteArray := prog_8_method_1_code
def yX6_init : MethodName := ⟨RX6, "<init>", "(LBoundTables$Table;)V"⟩
abbrev cX6_startOver : ByteArray := prog_8_method_2_code
def yX6_startOver : MethodName := ⟨RX6, "startOver", "(LBoundTables$Table;)V"⟩
abbrev cX6_head : ByteArray := prog_8_method_3_code
def yX6_head : MethodName := ⟨RX6, "head", "(I)I"⟩
abbrev cX6_part : ByteArray := prog_8_method_4_code
def yX6_part : MethodName := ⟨RX6, "part", "(II)I"⟩
abbrev cX6_partsOf : ByteArray := prog_8_method_5_code
def yX6_partsOf : MethodName := ⟨RX6, "partsOf", "(I)I"⟩
abbrev cX6_leaf : ByteArray := prog_8_method_6_code
def yX6_leaf : MethodName := ⟨RX6, "leaf", "(I)I"⟩
abbrev cX6_put : ByteArray := prog_8_method_7_code
def yX6_put : MethodName := ⟨RX6, "put", "([III[III)I"⟩
abbrev cX6_make : ByteArray := prog_8_method_8_code
def yX6_make : MethodName := ⟨RX6, "make", "(II)I"⟩
abbrev cX6_hasParts : ByteArray := prog_8_method_9_code
def yX6_hasParts : MethodName := ⟨RX6, "hasParts", "(III)Z"⟩
def RX7 : String := "BoundTables$Ways"
def TX7 : u_T := fun k => match k with
  | 0 => ("BoundTables$Ways", "sort", "[I", true)
  | 1 => ("BoundTables$Ways", "reach", "[I", true)
  | 2 => ("BoundTables$Ways", "onRound", "[I", true)
  | _ => ("BoundTables$Ways", "expansive", "Z", false)
def tyX7 : Nat → FieldType := fun k => match k with
  | 0 => .array .int
  | 1 => .array .int
  | 2 => .array .int
  | _ => .boolean
abbrev wsX70 : List Cond := u_ws RX7 TX7 4
theorem nmX7 : ∀ a, a < 4 → ∀ b, b < 4 → a ≠ b → (TX7 a).2.1 ≠ (TX7 b).2.1 := by decide +kernel
theorem tyX7_ok : ∀ k, k < 4 → parseFieldDescriptor (TX7 k).2.2.1 = some (tyX7 k) := by decide +kernel
abbrev cX7_init : ByteArray := prog_9_method_1_code
def yX7_init : MethodName := ⟨RX7, "<init>", "()V"⟩
abbrev cX7_measure : ByteArray := prog_9_method_2_code
def yX7_measure : MethodName := ⟨RX7, "measure", "(LBoundTables$Table;)V"⟩
abbrev cX7_addWays : ByteArray := prog_9_method_3_code
def yX7_addWays : MethodName := ⟨RX7, "addWays", "([IIII)V"⟩
abbrev cX7_closeReach : ByteArray := prog_9_method_4_code
def yX7_closeReach : MethodName := ⟨RX7, "closeReach", "(I)V"⟩
abbrev cX7_joinReach : ByteArray := prog_9_method_5_code
def yX7_joinReach : MethodName := ⟨RX7, "joinReach", "(III)V"⟩
abbrev cX7_markRounds : ByteArray := prog_9_method_6_code
def yX7_markRounds : MethodName := ⟨RX7, "markRounds", "(I)V"⟩
abbrev cX7_markRound : ByteArray := prog_9_method_7_code
def yX7_markRound : MethodName := ⟨RX7, "markRound", "(II)V"⟩
abbrev cX7_leads : ByteArray := prog_9_method_8_code
def yX7_leads : MethodName := ⟨RX7, "leads", "(II)Z"⟩
def RX8 : String := "BoundTables"
def TX8 : u_T := fun k => match k with
  | 0 => ("BoundTables", "tape", "LBoundTables$Tape;", true)
  | 1 => ("BoundTables", "ways", "LBoundTables$Ways;", true)
  | 2 => ("BoundTables", "page", "LBoundTables$Page;", true)
  | 3 => ("BoundTables", "table", "LBoundTables$Table;", false)
  | 4 => ("BoundTables", "spare", "LBoundTables$Table;", false)
  | 5 => ("BoundTables", "reader", "LBoundTables$Reader;", true)
  | 6 => ("BoundTables", "asker", "LBoundTables$Asker;", true)
  | _ => ("BoundTables", "latestFault", "I", false)
def tyX8 : Nat → FieldType := fun k => match k with
  | 0 => .object "BoundTables$Tape"
  | 1 => .object "BoundTables$Ways"
  | 2 => .object "BoundTables$Page"
  | 3 => .object "BoundTables$Table"
  | 4 => .object "BoundTables$Table"
  | 5 => .object "BoundTables$Reader"
  | 6 => .object "BoundTables$Asker"
  | _ => .int
abbrev wsX80 : List Cond := u_ws RX8 TX8 8
theorem nmX8 : ∀ a, a < 8 → ∀ b, b < 8 → a ≠ b → (TX8 a).2.1 ≠ (TX8 b).2.1 := by decide +kernel
theorem tyX8_ok : ∀ k, k < 8 → parseFieldDescriptor (TX8 k).2.2.1 = some (tyX8 k) := by decide +kernel
abbrev cX8_init : ByteArray := prog_1_method_1_code
def yX8_init : MethodName := ⟨RX8, "<init>", "()V"⟩
abbrev cX8_feed : ByteArray := prog_1_method_2_code
def yX8_feed : MethodName := ⟨RX8, "feed", "(JI)I"⟩
abbrev cX8_read : ByteArray := prog_1_method_3_code
def yX8_read : MethodName := ⟨RX8, "read", "()I"⟩
abbrev cX8_fault : ByteArray := prog_1_method_4_code
def yX8_fault : MethodName := ⟨RX8, "fault", "()I"⟩
abbrev cX8_cls : ByteArray := prog_1_method_5_code
def yX8_cls : MethodName := ⟨RX8, "cls", "(II)J"⟩
abbrev cX8_isAbove : ByteArray := prog_1_method_6_code
def yX8_isAbove : MethodName := ⟨RX8, "isAbove", "(II)I"⟩
abbrev cX8_parameter : ByteArray := prog_1_method_7_code
def yX8_parameter : MethodName := ⟨RX8, "parameter", "(II)J"⟩
abbrev cX8_way : ByteArray := prog_1_method_8_code
def yX8_way : MethodName := ⟨RX8, "way", "(II)I"⟩
abbrev cX8_ask : ByteArray := prog_1_method_9_code
def yX8_ask : MethodName := ⟨RX8, "ask", "(I)I"⟩
abbrev cX8_told : ByteArray := prog_1_method_10_code
def yX8_told : MethodName := ⟨RX8, "told", "(I)I"⟩
abbrev cX8_above : ByteArray := prog_1_method_11_code
def yX8_above : MethodName := ⟨RX8, "above", "()I"⟩
abbrev cX8_variable : ByteArray := prog_1_method_12_code
def yX8_variable : MethodName := ⟨RX8, "variable", "(II)I"⟩
abbrev cX8_written : ByteArray := prog_1_method_13_code
def yX8_written : MethodName := ⟨RX8, "written", "(I)I"⟩
abbrev cX8_clear : ByteArray := prog_1_method_14_code
def yX8_clear : MethodName := ⟨RX8, "clear", "()V"⟩
abbrev cX8_at : ByteArray := prog_1_method_15_code
def yX8_at : MethodName := ⟨RX8, "at", "([II)I"⟩
abbrev cX8_nameAt : ByteArray := prog_1_method_16_code
def yX8_nameAt : MethodName := ⟨RX8, "nameAt", "([JI)J"⟩
abbrev cX8_set : ByteArray := prog_1_method_17_code
def yX8_set : MethodName := ⟨RX8, "set", "([III)V"⟩
abbrev cX8_isClass : ByteArray := prog_1_method_18_code
def yX8_isClass : MethodName := ⟨RX8, "isClass", "(I)Z"⟩
abbrev cX8_isParameter : ByteArray := prog_1_method_19_code
def yX8_isParameter : MethodName := ⟨RX8, "isParameter", "(I)Z"⟩
abbrev cX8_isWild : ByteArray := prog_1_method_20_code
def yX8_isWild : MethodName := ⟨RX8, "isWild", "(I)Z"⟩
def RX9 : String := "BoundTablesModel"
def TX9 : u_T := fun k => match k with
  | 0 => ("BoundTablesModel", "kind", "[I", true)
  | 1 => ("BoundTablesModel", "val", "[I", true)
  | 2 => ("BoundTablesModel", "cnt", "[I", true)
  | 3 => ("BoundTablesModel", "args", "[I", true)
  | 4 => ("BoundTablesModel", "size", "[I", true)
  | 5 => ("BoundTablesModel", "nextLike", "[I", true)
  | 6 => ("BoundTablesModel", "heads", "[I", true)
  | 7 => ("BoundTablesModel", "low", "I", false)
  | 8 => ("BoundTablesModel", "top", "I", false)
  | 9 => ("BoundTablesModel", "part", "[I", true)
  | 10 => ("BoundTablesModel", "clsName", "[J", true)
  | 11 => ("BoundTablesModel", "clsFirst", "[I", true)
  | 12 => ("BoundTablesModel", "clsCount", "[I", true)
  | 13 => ("BoundTablesModel", "supers", "[I", true)
  | 14 => ("BoundTablesModel", "superCount", "[I", true)
  | 15 => ("BoundTablesModel", "aboveAll", "[I", true)
  | 16 => ("BoundTablesModel", "parName", "[J", true)
  | 17 => ("BoundTablesModel", "parCls", "[I", true)
  | 18 => ("BoundTablesModel", "bounds", "[I", true)
  | 19 => ("BoundTablesModel", "boundCount", "[I", true)
  | 20 => ("BoundTablesModel", "classes", "I", false)
  | 21 => ("BoundTablesModel", "params", "I", false)
  | 22 => ("BoundTablesModel", "told", "I", false)
  | 23 => ("BoundTablesModel", "tableTop", "I", false)
  | 24 => ("BoundTablesModel", "cb", "I", false)
  | 25 => ("BoundTablesModel", "pb", "I", false)
  | 26 => ("BoundTablesModel", "nowClasses", "I", false)
  | 27 => ("BoundTablesModel", "nowParams", "I", false)
  | 28 => ("BoundTablesModel", "tape", "[I", true)
  | 29 => ("BoundTablesModel", "tapeSize", "I", false)
  | 30 => ("BoundTablesModel", "end", "I", false)
  | 31 => ("BoundTablesModel", "at", "I", false)
  | 32 => ("BoundTablesModel", "token", "I", false)
  | 33 => ("BoundTablesModel", "tokenAt", "I", false)
  | 34 => ("BoundTablesModel", "tokenSize", "I", false)
  | 35 => ("BoundTablesModel", "fault", "I", false)
  | 36 => ("BoundTablesModel", "faultAt", "I", false)
  | 37 => ("BoundTablesModel", "lastFault", "I", false)
  | 38 => ("BoundTablesModel", "nodes", "I", false)
  | 39 => ("BoundTablesModel", "ways", "[I", true)
  | 40 => ("BoundTablesModel", "reach", "[Z", true)
  | 41 => ("BoundTablesModel", "expansive", "Z", false)
  | 42 => ("BoundTablesModel", "newBounds", "[I", true)
  | 43 => ("BoundTablesModel", "newCount", "[I", true)
  | 44 => ("BoundTablesModel", "newFloor", "[I", true)
  | 45 => ("BoundTablesModel", "fresh", "I", false)
  | 46 => ("BoundTablesModel", "asked", "I", false)
  | 47 => ("BoundTablesModel", "deepest", "I", false)
  | 48 => ("BoundTablesModel", "put", "I", false)
  | 49 => ("BoundTablesModel", "fromType", "[I", true)
  | 50 => ("BoundTablesModel", "toType", "[I", true)
  | 51 => ("BoundTablesModel", "phase", "[I", true)
  | 52 => ("BoundTablesModel", "index", "[I", true)
  | 53 => ("BoundTablesModel", "made", "[I", true)
  | 54 => ("BoundTablesModel", "thrown", "I", false)
  | 55 => ("BoundTablesModel", "out", "[B", true)
  | 56 => ("BoundTablesModel", "outSize", "I", false)
  | 57 => ("BoundTablesModel", "outAll", "I", false)
  | 58 => ("BoundTablesModel", "becomes", "[I", true)
  | 59 => ("BoundTablesModel", "stamp", "[I", true)
  | 60 => ("BoundTablesModel", "stamps", "I", false)
  | 61 => ("BoundTablesModel", "pile", "[I", true)
  | 62 => ("BoundTablesModel", "openParam", "[Z", true)
  | 63 => ("BoundTablesModel", "openVal", "[I", true)
  | 64 => ("BoundTablesModel", "openCount", "[I", true)
  | 65 => ("BoundTablesModel", "openArgs", "[I", true)
  | 66 => ("BoundTablesModel", "wrap", "[I", true)
  | 67 => ("BoundTablesModel", "seen", "[I", true)
  | 68 => ("BoundTablesModel", "sights", "I", false)
  | 69 => ("BoundTablesModel", "heap", "[I", true)
  | 70 => ("BoundTablesModel", "in", "I", false)
  | 71 => ("BoundTablesModel", "left", "I", false)
  | 72 => ("BoundTablesModel", "right", "I", false)
  | 73 => ("BoundTablesModel", "capture", "[I", true)
  | 74 => ("BoundTablesModel", "depth", "I", false)
  | 75 => ("BoundTablesModel", "fuelTold", "I", false)
  | _ => ("BoundTablesModel", "ended", "I", false)
def tyX9 : Nat → FieldType := fun k => match k with
  | 0 => .array .int
  | 1 => .array .int
  | 2 => .array .int
  | 3 => .array .int
  | 4 => .array .int
  | 5 => .array .int
  | 6 => .array .int
  | 7 => .int
  | 8 => .int
  | 9 => .array .int
  | 10 => .array .long
  | 11 => .array .int
  | 12 => .array .int
  | 13 => .array .int
  | 14 => .array .int
  | 15 => .array .int
  | 16 => .array .long
  | 17 => .array .int
  | 18 => .array .int
  | 19 => .array .int
  | 20 => .int
  | 21 => .int
  | 22 => .int
  | 23 => .int
  | 24 => .int
  | 25 => .int
  | 26 => .int
  | 27 => .int
  | 28 => .array .int
  | 29 => .int
  | 30 => .int
  | 31 => .int
  | 32 => .int
  | 33 => .int
  | 34 => .int
  | 35 => .int
  | 36 => .int
  | 37 => .int
  | 38 => .int
  | 39 => .array .int
  | 40 => .array .boolean
  | 41 => .boolean
  | 42 => .array .int
  | 43 => .array .int
  | 44 => .array .int
  | 45 => .int
  | 46 => .int
  | 47 => .int
  | 48 => .int
  | 49 => .array .int
  | 50 => .array .int
  | 51 => .array .int
  | 52 => .array .int
  | 53 => .array .int
  | 54 => .int
  | 55 => .array .byte
  | 56 => .int
  | 57 => .int
  | 58 => .array .int
  | 59 => .array .int
  | 60 => .int
  | 61 => .array .int
  | 62 => .array .boolean
  | 63 => .array .int
  | 64 => .array .int
  | 65 => .array .int
  | 66 => .array .int
  | 67 => .array .int
  | 68 => .int
  | 69 => .array .int
  | 70 => .int
  | 71 => .int
  | 72 => .int
  | 73 => .array .int
  | 74 => .int
  | 75 => .int
  | _ => .int
abbrev wsX90 : List Cond := u_ws RX9 TX9 77
theorem nmX9 : ∀ a, a < 77 → ∀ b, b < 77 → a ≠ b → (TX9 a).2.1 ≠ (TX9 b).2.1 := by decide +kernel
theorem tyX9_ok : ∀ k, k < 77 → parseFieldDescriptor (TX9 k).2.2.1 = some (tyX9 k) := by decide +kernel
abbrev cX9_init : ByteArray := prog_11_method_1_code
def yX9_init : MethodName := ⟨RX9, "<init>", "()V"⟩
abbrev cX9_anew : ByteArray := prog_11_method_2_code
def yX9_anew : MethodName := ⟨RX9, "anew", "()V"⟩
abbrev cX9_forgetAsked : ByteArray := prog_11_method_3_code
def yX9_forgetAsked : MethodName := ⟨RX9, "forgetAsked", "()V"⟩
abbrev cX9_clearHeads : ByteArray := prog_11_method_4_code
def yX9_clearHeads : MethodName := ⟨RX9, "clearHeads", "()V"⟩
abbrev cX9_slotOf : ByteArray := prog_11_method_5_code
def yX9_slotOf : MethodName := ⟨RX9, "slotOf", "(III)I"⟩
abbrev cX9_isLike : ByteArray := prog_11_method_6_code
def yX9_isLike : MethodName := ⟨RX9, "isLike", "(IIII)Z"⟩
abbrev cX9_make : ByteArray := prog_11_method_7_code
def yX9_make : MethodName := ⟨RX9, "make", "(III)I"⟩
abbrev cX9_chainAgain : ByteArray := prog_11_method_8_code
def yX9_chainAgain : MethodName := ⟨RX9, "chainAgain", "(II)V"⟩
abbrev cX9_substitute : ByteArray := prog_11_method_9_code
def yX9_substitute : MethodName := ⟨RX9, "substitute", "(IIII)I"⟩
abbrev cX9_substituted : ByteArray := prog_11_method_10_code
def yX9_substituted : MethodName := ⟨RX9, "substituted", "(IIII)I"⟩
abbrev cX9_isLetter : ByteArray := prog_11_method_11_code
def yX9_isLetter : MethodName := ⟨RX9, "isLetter", "(I)Z"⟩
abbrev cX9_isPart : ByteArray := prog_11_method_12_code
def yX9_isPart : MethodName := ⟨RX9, "isPart", "(I)Z"⟩
abbrev cX9_isSign : ByteArray := prog_11_method_13_code
def yX9_isSign : MethodName := ⟨RX9, "isSign", "(I)Z"⟩
abbrev cX9_nameAt : ByteArray := prog_11_method_14_code
def yX9_nameAt : MethodName := ⟨RX9, "nameAt", "(II)J"⟩
abbrev cX9_pass : ByteArray := prog_11_method_15_code
def yX9_pass : MethodName := ⟨RX9, "pass", "()V"⟩
abbrev cX9_isBefore : ByteArray := prog_11_method_16_code
def yX9_isBefore : MethodName := ⟨RX9, "isBefore", "(I)Z"⟩
abbrev cX9_fail : ByteArray := prog_11_method_17_code
def yX9_fail : MethodName := ⟨RX9, "fail", "(I)Z"⟩
abbrev cX9_want : ByteArray := prog_11_method_18_code
def yX9_want : MethodName := ⟨RX9, "want", "(I)Z"⟩
abbrev cX9_name : ByteArray := prog_11_method_19_code
def yX9_name : MethodName := ⟨RX9, "name", "()J"⟩
abbrev cX9_findClass : ByteArray := prog_11_method_20_code
def yX9_findClass : MethodName := ⟨RX9, "findClass", "(J)I"⟩
abbrev cX9_findParam : ByteArray := prog_11_method_21_code
def yX9_findParam : MethodName := ⟨RX9, "findParam", "(IJ)I"⟩
abbrev cX9_mayStandBehind : ByteArray := prog_11_method_22_code
def yX9_mayStandBehind : MethodName := ⟨RX9, "mayStandBehind", "(II)Z"⟩
abbrev cX9_openType : ByteArray := prog_11_method_23_code
def yX9_openType : MethodName := ⟨RX9, "openType", "(IIIZ)Z"⟩
abbrev cX9_addArg : ByteArray := prog_11_method_24_code
def yX9_addArg : MethodName := ⟨RX9, "addArg", "(II)V"⟩
abbrev cX9_closed : ByteArray := prog_11_method_25_code
def yX9_closed : MethodName := ⟨RX9, "closed", "(I)I"⟩
abbrev cX9_readType : ByteArray := prog_11_method_26_code
def yX9_readType : MethodName := ⟨RX9, "readType", "(IIZ)I"⟩
abbrev cX9_readHead : ByteArray := prog_11_method_27_code
def yX9_readHead : MethodName := ⟨RX9, "readHead", "(I)Z"⟩
abbrev cX9_readBounds : ByteArray := prog_11_method_28_code
def yX9_readBounds : MethodName := ⟨RX9, "readBounds", "(I)Z"⟩
abbrev cX9_readSupers : ByteArray := prog_11_method_29_code
def yX9_readSupers : MethodName := ⟨RX9, "readSupers", "(I)Z"⟩
abbrev cX9_findAbove : ByteArray := prog_11_method_30_code
def yX9_findAbove : MethodName := ⟨RX9, "findAbove", "(I)Z"⟩
abbrev cX9_readDecl : ByteArray := prog_11_method_31_code
def yX9_readDecl : MethodName := ⟨RX9, "readDecl", "()Z"⟩
abbrev cX9_begin : ByteArray := prog_11_method_32_code
def yX9_begin : MethodName := ⟨RX9, "begin", "()V"⟩
abbrev cX9_read : ByteArray := prog_11_method_33_code
def yX9_read : MethodName := ⟨RX9, "read", "()I"⟩
abbrev cX9_down : ByteArray := prog_11_method_34_code
def yX9_down : MethodName := ⟨RX9, "down", "(II)I"⟩
abbrev cX9_commit : ByteArray := prog_11_method_35_code
def yX9_commit : MethodName := ⟨RX9, "commit", "(I)V"⟩
abbrev cX9_addWays : ByteArray := prog_11_method_36_code
def yX9_addWays : MethodName := ⟨RX9, "addWays", "(II)V"⟩
abbrev cX9_waysOf : ByteArray := prog_11_method_37_code
def yX9_waysOf : MethodName := ⟨RX9, "waysOf", "(I)V"⟩
abbrev cX9_findWays : ByteArray := prog_11_method_38_code
def yX9_findWays : MethodName := ⟨RX9, "findWays", "()V"⟩
abbrev cX9_isOnGrowing : ByteArray := prog_11_method_39_code
def yX9_isOnGrowing : MethodName := ⟨RX9, "isOnGrowing", "(I)Z"⟩
abbrev cX9_readIn : ByteArray := prog_11_method_40_code
def yX9_readIn : MethodName := ⟨RX9, "readIn", "()Z"⟩
abbrev cX9_readQuestion : ByteArray := prog_11_method_41_code
def yX9_readQuestion : MethodName := ⟨RX9, "readQuestion", "()Z"⟩
abbrev cX9_readPlace : ByteArray := prog_11_method_42_code
def yX9_readPlace : MethodName := ⟨RX9, "readPlace", "()Z"⟩
abbrev cX9_readTwice : ByteArray := prog_11_method_43_code
def yX9_readTwice : MethodName := ⟨RX9, "readTwice", "(Z)Z"⟩
abbrev cX9_isVariable : ByteArray := prog_11_method_44_code
def yX9_isVariable : MethodName := ⟨RX9, "isVariable", "(I)Z"⟩
abbrev cX9_boundsOf : ByteArray := prog_11_method_45_code
def yX9_boundsOf : MethodName := ⟨RX9, "boundsOf", "(I)I"⟩
abbrev cX9_boundOf : ByteArray := prog_11_method_46_code
def yX9_boundOf : MethodName := ⟨RX9, "boundOf", "(II)I"⟩
abbrev cX9_captured : ByteArray := prog_11_method_47_code
def yX9_captured : MethodName := ⟨RX9, "captured", "(I)I"⟩
abbrev cX9_bind : ByteArray := prog_11_method_48_code
def yX9_bind : MethodName := ⟨RX9, "bind", "(IIIII)Z"⟩
abbrev cX9_aboveOf : ByteArray := prog_11_method_49_code
def yX9_aboveOf : MethodName := ⟨RX9, "aboveOf", "(II)I"⟩
abbrev cX9_ask2 : ByteArray := prog_11_method_50_code
def yX9_ask2 : MethodName := ⟨RX9, "ask2", "(II)Z"⟩
abbrev cX9_pairs : ByteArray := prog_11_method_51_code
def yX9_pairs : MethodName := ⟨RX9, "pairs", "(I)I"⟩
abbrev cX9_opened : ByteArray := prog_11_method_52_code
def yX9_opened : MethodName := ⟨RX9, "opened", "(I)I"⟩
abbrev cX9_behindFloor : ByteArray := prog_11_method_53_code
def yX9_behindFloor : MethodName := ⟨RX9, "behindFloor", "(I)I"⟩
abbrev cX9_resumed : ByteArray := prog_11_method_54_code
def yX9_resumed : MethodName := ⟨RX9, "resumed", "(II)I"⟩
abbrev cX9_questions : ByteArray := prog_11_method_55_code
def yX9_questions : MethodName := ⟨RX9, "questions", "(III)I"⟩
abbrev cX9_ask : ByteArray := prog_11_method_56_code
def yX9_ask : MethodName := ⟨RX9, "ask", "(I)I"⟩
abbrev cX9_above : ByteArray := prog_11_method_57_code
def yX9_above : MethodName := ⟨RX9, "above", "()I"⟩
abbrev cX9_sign : ByteArray := prog_11_method_58_code
def yX9_sign : MethodName := ⟨RX9, "sign", "(I)V"⟩
abbrev cX9_signs : ByteArray := prog_11_method_59_code
def yX9_signs : MethodName := ⟨RX9, "signs", "(J)V"⟩
abbrev cX9_head : ByteArray := prog_11_method_60_code
def yX9_head : MethodName := ⟨RX9, "head", "(I)V"⟩
abbrev cX9_write : ByteArray := prog_11_method_61_code
def yX9_write : MethodName := ⟨RX9, "write", "(I)V"⟩
abbrev cX9_variable : ByteArray := prog_11_method_62_code
def yX9_variable : MethodName := ⟨RX9, "variable", "(II)I"⟩
abbrev cX9_written : ByteArray := prog_11_method_63_code
def yX9_written : MethodName := ⟨RX9, "written", "(I)I"⟩
abbrev cX9_feed : ByteArray := prog_11_method_64_code
def yX9_feed : MethodName := ⟨RX9, "feed", "(JI)I"⟩
abbrev cX9_fault : ByteArray := prog_11_method_65_code
def yX9_fault : MethodName := ⟨RX9, "fault", "()I"⟩
abbrev cX9_isClass : ByteArray := prog_11_method_66_code
def yX9_isClass : MethodName := ⟨RX9, "isClass", "(I)Z"⟩
abbrev cX9_cls : ByteArray := prog_11_method_67_code
def yX9_cls : MethodName := ⟨RX9, "cls", "(II)J"⟩
abbrev cX9_isOver : ByteArray := prog_11_method_68_code
def yX9_isOver : MethodName := ⟨RX9, "isOver", "(II)Z"⟩
abbrev cX9_isAbove : ByteArray := prog_11_method_69_code
def yX9_isAbove : MethodName := ⟨RX9, "isAbove", "(II)I"⟩
abbrev cX9_isParam : ByteArray := prog_11_method_70_code
def yX9_isParam : MethodName := ⟨RX9, "isParam", "(I)Z"⟩
abbrev cX9_parameter : ByteArray := prog_11_method_71_code
def yX9_parameter : MethodName := ⟨RX9, "parameter", "(II)J"⟩
abbrev cX9_way : ByteArray := prog_11_method_72_code
def yX9_way : MethodName := ⟨RX9, "way", "(II)I"⟩
abbrev cX9_told : ByteArray := prog_11_method_73_code
def yX9_told : MethodName := ⟨RX9, "told", "(I)I"⟩
abbrev cX9_clear : ByteArray := prog_11_method_74_code
def yX9_clear : MethodName := ⟨RX9, "clear", "()V"⟩
abbrev cX9_thrown : ByteArray := prog_11_method_75_code
def yX9_thrown : MethodName := ⟨RX9, "thrown", "()I"⟩
def RJ11 : String := "java/lang/Character"
def TJ11 : u_T := fun k => match k with
  | _ => ("", "", "", false)
def tyJ11 : Nat → FieldType := fun k => match k with
  | _ => .int
abbrev wsJ110 : List Cond := u_ws RJ11 TJ11 0
theorem nmJ11 : ∀ a, a < 0 → ∀ b, b < 0 → a ≠ b → (TJ11 a).2.1 ≠ (TJ11 b).2.1 := by decide +kernel
theorem tyJ11_ok : ∀ k, k < 0 → parseFieldDescriptor (TJ11 k).2.2.1 = some (tyJ11 k) := by decide +kernel
abbrev cJ11_isValidCodePoint_9a6ad : ByteArray := prog_12_method_11_code
def yJ11_isValidCodePoint_9a6ad : MethodName := ⟨RJ11, "isValidCodePoint", "(I)Z"⟩
abbrev cJ11_highSurrogate_5068e : ByteArray := prog_12_method_28_code
def yJ11_highSurrogate_5068e : MethodName := ⟨RJ11, "highSurrogate", "(I)C"⟩
abbrev cJ11_lowSurrogate_5068e : ByteArray := prog_12_method_29_code
def yJ11_lowSurrogate_5068e : MethodName := ⟨RJ11, "lowSurrogate", "(I)C"⟩
def RJx8e188 : String := "java/lang/Cloneable"
def TJx8e188 : u_T := fun k => match k with
  | _ => ("", "", "", false)
def tyJx8e188 : Nat → FieldType := fun k => match k with
  | _ => .int
abbrev wsJx8e1880 : List Cond := u_ws RJx8e188 TJx8e188 0
theorem nmJx8e188 : ∀ a, a < 0 → ∀ b, b < 0 → a ≠ b → (TJx8e188 a).2.1 ≠ (TJx8e188 b).2.1 := by decide +kernel
theorem tyJx8e188_ok : ∀ k, k < 0 → parseFieldDescriptor (TJx8e188 k).2.2.1 = some (tyJx8e188 k) := by decide +kernel
def RJ9 : String := "java/lang/Math"
def TJ9 : u_T := fun k => match k with
  | _ => ("", "", "", false)
def tyJ9 : Nat → FieldType := fun k => match k with
  | _ => .int
abbrev wsJ90 : List Cond := u_ws RJ9 TJ9 0
theorem nmJ9 : ∀ a, a < 0 → ∀ b, b < 0 → a ≠ b → (TJ9 a).2.1 ≠ (TJ9 b).2.1 := by decide +kernel
theorem tyJ9_ok : ∀ k, k < 0 → parseFieldDescriptor (TJ9 k).2.2.1 = some (tyJ9 k) := by decide +kernel
abbrev cJ9_max_7cf53 : ByteArray := prog_17_method_65_code
def yJ9_max_7cf53 : MethodName := ⟨RJ9, "max", "(II)I"⟩
abbrev cJ9_min_7cf53 : ByteArray := prog_17_method_69_code
def yJ9_min_7cf53 : MethodName := ⟨RJ9, "min", "(II)I"⟩
def RJ0 : String := "java/lang/String"
def TJ0 : u_T := fun k => match k with
  | _ => ("", "", "", false)
def tyJ0 : Nat → FieldType := fun k => match k with
  | _ => .int
abbrev wsJ00 : List Cond := u_ws RJ0 TJ0 0
theorem nmJ0 : ∀ a, a < 0 → ∀ b, b < 0 → a ≠ b → (TJ0 a).2.1 ≠ (TJ0 b).2.1 := by decide +kernel
theorem tyJ0_ok : ∀ k, k < 0 → parseFieldDescriptor (TJ0 k).2.2.1 = some (tyJ0 k) := by decide +kernel
abbrev cJ0_length_8abf5 : ByteArray := prog_19_method_54_code
def yJ0_length_8abf5 : MethodName := ⟨RJ0, "length", "()I"⟩
abbrev cJ0_indexOf_0f7a4 : ByteArray := prog_19_method_79_code
def yJ0_indexOf_0f7a4 : MethodName := ⟨RJ0, "indexOf", "(I)I"⟩
abbrev cJ0_indexOf_7cf53 : ByteArray := prog_19_method_80_code
def yJ0_indexOf_7cf53 : MethodName := ⟨RJ0, "indexOf", "(II)I"⟩
abbrev cJ0_coder_7d493 : ByteArray := prog_19_method_152_code
def yJ0_coder_7d493 : MethodName := ⟨RJ0, "coder", "()B"⟩
abbrev cJ0_isLatin1_aae02 : ByteArray := prog_19_method_154_code
def yJ0_isLatin1_aae02 : MethodName := ⟨RJ0, "isLatin1", "()Z"⟩
abbrev cJ0_checkBoundsBeginEnd_23922 : ByteArray := prog_19_method_158_code
def yJ0_checkBoundsBeginEnd_23922 : MethodName := ⟨RJ0, "checkBoundsBeginEnd", "(III)V"⟩
def RJ1 : String := "java/lang/StringLatin1"
def TJ1 : u_T := fun k => match k with
  | _ => ("", "", "", false)
def tyJ1 : Nat → FieldType := fun k => match k with
  | _ => .int
abbrev wsJ10 : List Cond := u_ws RJ1 TJ1 0
theorem nmJ1 : ∀ a, a < 0 → ∀ b, b < 0 → a ≠ b → (TJ1 a).2.1 ≠ (TJ1 b).2.1 := by decide +kernel
theorem tyJ1_ok : ∀ k, k < 0 → parseFieldDescriptor (TJ1 k).2.2.1 = some (tyJ1 k) := by decide +kernel
abbrev cJ1_canEncode_9a6ad : ByteArray := prog_20_method_4_code
def yJ1_canEncode_9a6ad : MethodName := ⟨RJ1, "canEncode", "(I)Z"⟩
abbrev cJ1_indexOf_4cfef : ByteArray := prog_20_method_22_code
def yJ1_indexOf_4cfef : MethodName := ⟨RJ1, "indexOf", "([BIII)I"⟩
abbrev cJ1_indexOfChar_4cfef : ByteArray := prog_20_method_23_code
def yJ1_indexOfChar_4cfef : MethodName := ⟨RJ1, "indexOfChar", "([BIII)I"⟩
def RJ2 : String := "java/lang/StringUTF16"
def TJ2 : u_T := fun k => match k with
  | _ => ("", "", "", false)
def tyJ2 : Nat → FieldType := fun k => match k with
  | _ => .int
abbrev wsJ20 : List Cond := u_ws RJ2 TJ2 0
theorem nmJ2 : ∀ a, a < 0 → ∀ b, b < 0 → a ≠ b → (TJ2 a).2.1 ≠ (TJ2 b).2.1 := by decide +kernel
theorem tyJ2_ok : ∀ k, k < 0 → parseFieldDescriptor (TJ2 k).2.2.1 = some (tyJ2 k) := by decide +kernel
abbrev cJ2_getChar_3b067 : ByteArray := prog_21_method_5_code
def yJ2_getChar_3b067 : MethodName := ⟨RJ2, "getChar", "([BI)C"⟩
abbrev cJ2_length_9d52b : ByteArray := prog_21_method_6_code
def yJ2_length_9d52b : MethodName := ⟨RJ2, "length", "([B)I"⟩
abbrev cJ2_indexOf_4cfef : ByteArray := prog_21_method_40_code
def yJ2_indexOf_4cfef : MethodName := ⟨RJ2, "indexOf", "([BIII)I"⟩
abbrev cJ2_indexOfChar_4cfef : ByteArray := prog_21_method_47_code
def yJ2_indexOfChar_4cfef : MethodName := ⟨RJ2, "indexOfChar", "([BIII)I"⟩
abbrev cJ2_indexOfCharUnsafe_4cfef : ByteArray := prog_21_method_48_code
def yJ2_indexOfCharUnsafe_4cfef : MethodName := ⟨RJ2, "indexOfCharUnsafe", "([BIII)I"⟩
abbrev cJ2_indexOfSupplementary_4cfef : ByteArray := prog_21_method_49_code
def yJ2_indexOfSupplementary_4cfef : MethodName := ⟨RJ2, "indexOfSupplementary", "([BIII)I"⟩
abbrev cJ2_checkBoundsBeginEnd_d044e : ByteArray := prog_21_method_93_code
def yJ2_checkBoundsBeginEnd_d044e : MethodName := ⟨RJ2, "checkBoundsBeginEnd", "(II[B)V"⟩
def RJ10 : String := "java/lang/System"
def TJ10 : u_T := fun k => match k with
  | _ => ("", "", "", false)
def tyJ10 : Nat → FieldType := fun k => match k with
  | _ => .int
abbrev wsJ100 : List Cond := u_ws RJ10 TJ10 0
theorem nmJ10 : ∀ a, a < 0 → ∀ b, b < 0 → a ≠ b → (TJ10 a).2.1 ≠ (TJ10 b).2.1 := by decide +kernel
theorem tyJ10_ok : ∀ k, k < 0 → parseFieldDescriptor (TJ10 k).2.2.1 = some (tyJ10 k) := by decide +kernel
def RJ7 : String := "java/util/Arrays"
def TJ7 : u_T := fun k => match k with
  | _ => ("", "", "", false)
def tyJ7 : Nat → FieldType := fun k => match k with
  | _ => .int
abbrev wsJ70 : List Cond := u_ws RJ7 TJ7 0
theorem nmJ7 : ∀ a, a < 0 → ∀ b, b < 0 → a ≠ b → (TJ7 a).2.1 ≠ (TJ7 b).2.1 := by decide +kernel
theorem tyJ7_ok : ∀ k, k < 0 → parseFieldDescriptor (TJ7 k).2.2.1 = some (tyJ7 k) := by decide +kernel
abbrev cJ7_fill_53178 : ByteArray := prog_25_method_103_code
def yJ7_fill_53178 : MethodName := ⟨RJ7, "fill", "([II)V"⟩
abbrev cJ7_copyOf_59c91 : ByteArray := prog_25_method_123_code
def yJ7_copyOf_59c91 : MethodName := ⟨RJ7, "copyOf", "([II)[I"⟩
def RJ3 : String := "jdk/internal/util/Preconditions"
def TJ3 : u_T := fun k => match k with
  | _ => ("", "", "", false)
def tyJ3 : Nat → FieldType := fun k => match k with
  | _ => .int
abbrev wsJ30 : List Cond := u_ws RJ3 TJ3 0
theorem nmJ3 : ∀ a, a < 0 → ∀ b, b < 0 → a ≠ b → (TJ3 a).2.1 ≠ (TJ3 b).2.1 := by decide +kernel
theorem tyJ3_ok : ∀ k, k < 0 → parseFieldDescriptor (TJ3 k).2.2.1 = some (tyJ3 k) := by decide +kernel
abbrev cJ3_checkFromToIndex_8c36e : ByteArray := prog_26_method_12_code
def yJ3_checkFromToIndex_8c36e : MethodName := ⟨RJ3, "checkFromToIndex", "(IIILjava/util/function/BiFunction;)I"⟩
def RL : String := "BoundTablesLaw"
abbrev cL_feed : ByteArray := method_3_code
def yL_feed : MethodName := ⟨RL, "feed", "(LBoundTables;JI[J)I"⟩
abbrev cL_cls : ByteArray := method_4_code
def yL_cls : MethodName := ⟨RL, "cls", "(LBoundTables;II[J)I"⟩
abbrev cL_isAbove : ByteArray := method_5_code
def yL_isAbove : MethodName := ⟨RL, "isAbove", "(LBoundTables;II[J)I"⟩
abbrev cL_parameter : ByteArray := method_6_code
def yL_parameter : MethodName := ⟨RL, "parameter", "(LBoundTables;II[J)I"⟩
abbrev cL_way : ByteArray := method_7_code
def yL_way : MethodName := ⟨RL, "way", "(LBoundTables;II[J)I"⟩
abbrev cL_ask : ByteArray := method_8_code
def yL_ask : MethodName := ⟨RL, "ask", "(LBoundTables;I[J)I"⟩
abbrev cL_told : ByteArray := method_9_code
def yL_told : MethodName := ⟨RL, "told", "(LBoundTables;I[J)I"⟩
abbrev cL_variable : ByteArray := method_10_code
def yL_variable : MethodName := ⟨RL, "variable", "(LBoundTables;II[J)I"⟩
abbrev cL_written : ByteArray := method_11_code
def yL_written : MethodName := ⟨RL, "written", "(LBoundTables;I[J)I"⟩
abbrev cL_law : ByteArray := code
def yL_law : MethodName := ⟨RL, "law", "([I)Z"⟩
end
section
/-! ===== a small machine over closed data: a step of it is a step of the machine; references are counted from the law's entry on ===== -/
abbrev mI : Type := Int32 × List (Nat × Int32)
abbrev mJ : Type := Int64 × List (Nat × Int64)
/-- a cell: an object (the number of its kind, its fields), or a row ((its kind, its length), what is in it) -/
abbrev mE : Type := (Nat × List Value) ⊕ ((Nat × Nat) × (mI ⊕ mJ))
/-- cells, and how many fields and elements they have in all -/
abbrev mW : Type := List mE × Nat
/-- place, locals, stack, cells -/
abbrev mS : Type := Nat × List (Nat × Value) × List Value × mW
abbrev mL : Type := Nat × Nat × Nat × Int
def mx_g {α : Type} (a : α × List (Nat × α)) (i : Nat) : α := (a.2.lookup i).getD a.1
def mx_s {α : Type} (a : α × List (Nat × α)) (i : Nat) (x : α) : α × List (Nat × α) := (a.1, (i, x) :: a.2)
def mx_E : Nat := 1048576
/-- the number whose value says whether the cells' count is known: 0 if it is -/
def mx_F : Nat := 2097152
abbrev mK : Type := List ((ClassFile.Cond × Value × Value) × Bool)
/-- the one long that is a name: two numbers of the script put together -/
def mx_lg (r : Nat → Value) : Int64 := match r 1048578, r 1048579 with
  | .int a, .int b => (a.toInt64 <<< ((32 : Int32).toInt64 &&& 63)) ||| (b.toInt64 &&& 4294967295)
  | _, _ => 0
def mx_v (r : Nat → Value) (v : Value) : Value := match v with
  | .ref j => r j
  | .double k => if k = 77 then .long (mx_lg r) else .double k
  | v => v
/-- a cell that isn't looked at any more -/
def mx_dd (c : mE) : Bool := match c with
  | .inr ((k, _), _) => Nat.beq k 9
  | _ => false
def mx_c (cy : Nat → ClassId) (r : Nat → Value) (c : mE) : va_E := match c with
  | .inl (ci, fs) => .inr (ci, fs.map (mx_v r))
  | .inr ((k, n), .inl a) => .inl (cy k, n, .inl (mx_g a))
  | .inr ((k, n), .inr a) => .inl (cy k, n, .inr (.inl (mx_g a)))
def mx_cl : List vw_C := [(RX0, TX0, 15), (RX1, TX1, 7), (RX2, TX2, 5), (RX3, TX3, 11), (RX4, TX4, 15), (RX5, TX5, 9), (RX6, TX6, 9), (RX7, TX7, 4), (RX8, TX8, 8), (RX9, TX9, 77)]
def mx_ty (ci : Nat) : Nat → FieldType := match ci with
  | 0 => tyX0 | 1 => tyX1 | 2 => tyX2 | 3 => tyX3 | 4 => tyX4 | 5 => tyX5 | 6 => tyX6 | 7 => tyX7 | 8 => tyX8 | _ => tyX9
def mx_tys (cy : Nat → ClassId) : List (ClassId × FieldType) := [(cy 0, .int), (cy 1, .long), (cy 2, .boolean), (cy 3, .byte)]
def mx_R (D : va_G) (cy : Nat → ClassId) (r : Nat → Value) (B : Nat) (w : mW) (H : Heap) : Prop := (r mx_F = .int 0 → H.size = B + w.1.length) ∧ w.1.length ≤ mx_E ∧ ∀ (j : Nat) (c : mE), w.1[j]? = some c → mx_dd c = false → va_at D mx_cl (B + j, mx_c cy r c) H
def mx_r (r : Nat → Value) (B : Nat) : Prop := (∀ j, j < mx_E → r j = .ref (B + j)) ∧ (∃ b, r mx_E = .ref b) ∧ ∀ j, mx_E < j → ∃ x : Int32, r j = .int x
def mx_ok (w : Cond) : Bool := match w with
  | .arrayClass _ => true
  | .castable _ _ => true
  | .declares _ => true
  | w => w.onTables && w.keepsH
def mx_Env (U : State) : Prop := ∀ w ∈ lw_tbl, mx_ok w = true → ∀ a, w.before a U = true
def mx_at (q : Nat) (w : Cond) : Bool := decide (lw_tbl[q]? = some w) && mx_ok w
theorem mx_at_use {q : Nat} {w : Cond} {U : State} {a : Array Value} (h : mx_at q w = true) (hE : mx_Env U) : w.before a U = true := by
  simp only [mx_at, Bool.and_eq_true, decide_eq_true_eq] at h
  exact hE w (List.mem_of_getElem? h.1) h.2 a
theorem mx_ok_warm {s U : State} {w : Cond} {a a' : Array Value} (hW : s.WarmedH U.vm) (hk : mx_ok w = true) (h : w.before a s = true) : w.before a' U = true := by
  have key : (w.onTables && w.keepsH) = true → w.before a' U = true := by
    intro hk
    simp only [Bool.and_eq_true] at hk
    have h1 := Cond.onTables_warmH (T := U) (args' := a') hW hk.1 hk.2 h
    rwa [State.setVm_self] at h1
  cases w <;> first | exact key hk | exact word_at hW (Or.inr ⟨_, rfl⟩) h | exact va_Nw.use rfl (va_Nw.warmC hW (va_Nw.of rfl h)) | exact va_Nw.use rfl (va_Nw.warmD hW (va_Nw.of rfl h))
theorem mx_Env.warm {s U : State} (hW : s.WarmedH U.vm) (h : mx_Env s) : mx_Env U := fun w hw hk a => mx_ok_warm hW hk (h w hw hk a)
theorem mx_Env.same {s U : State} (hv : U.vm = s.vm) (h : mx_Env s) : mx_Env U := by
  refine mx_Env.warm ?_ h
  rw [hv]
  exact State.WarmedH.refl s
/-! ### words of the values -/
theorem mx_v_int (r : Nat → Value) (x : Int32) : mx_v r (.int x) = .int x := rfl
theorem mx_v_long (r : Nat → Value) (x : Int64) : mx_v r (.long x) = .long x := rfl
theorem mx_v_null (r : Nat → Value) : mx_v r .null = .null := rfl
theorem mx_v_ref (r : Nat → Value) (j : Nat) : mx_v r (.ref j) = r j := rfl
theorem mx_r.ref {r : Nat → Value} {B : Nat} (h : mx_r r B) {j : Nat} (hj : j ≤ mx_E) : ∃ a, r j = .ref a := by
  rcases Nat.lt_or_eq_of_le hj with h1 | h1
  · exact ⟨_, h.1 j h1⟩
  · rw [h1]; exact h.2.1
theorem mx_r.cat {r : Nat → Value} {B : Nat} (h : mx_r r B) (j : Nat) : (r j).category = 1 := by
  rcases Nat.lt_or_ge mx_E j with h1 | h1
  · obtain ⟨x, hx⟩ := h.2.2 j h1; rw [hx]; rfl
  · obtain ⟨x, hx⟩ := h.ref h1; rw [hx]; rfl
theorem mx_cat {r : Nat → Value} {B : Nat} (h : mx_r r B) (v : Value) : (mx_v r v).category = v.category := by
  cases v <;> first | rfl | exact (h.cat _) | (simp only [mx_v]; split <;> rfl)
theorem mx_cats {r : Nat → Value} {B : Nat} (h : mx_r r B) (st : List Value) : ((st.map (mx_v r)).map fun v => v.category).sum = (st.map fun v => v.category).sum := by
  rw [List.map_map]
  congr 1
  exact List.map_congr_left (fun v _ => mx_cat h v)
/-! ### words of the cells -/
theorem mx_g_s {α : Type} (a : α × List (Nat × α)) (i : Nat) (x : α) (j : Nat) : mx_g (mx_s a i x) j = if j = i then x else mx_g a j := by
  unfold mx_g mx_s
  by_cases h : j = i
  · subst h
    simp [List.lookup]
  · have : (j == i) = false := by simpa using h
    simp [List.lookup, this, h]
theorem mx_R.P {D : va_G} {cy : Nat → ClassId} {r : Nat → Value} {B : Nat} {w : mW} {H : Heap} {j : Nat} {c : mE} (h : mx_R D cy r B w H) (hj : w.1[j]? = some c) (hd : mx_dd c = false) : va_P D mx_cl [(B + j, mx_c cy r c)] H := by
  intro k q hk
  have hz : k < 1 := by simpa using (List.getElem?_eq_some_iff.mp hk).1
  have : k = 0 := by omega
  subst this
  cases hk
  exact h.2.2 j c hj hd
/-- a cell is written: the picture of the others stays -/
theorem mx_R.set {D : va_G} {cy : Nat → ClassId} {r : Nat → Value} {B : Nat} {w : mW} {H H1 : Heap} {j : Nat} {c c' : mE} (h : mx_R D cy r B w H) (hj : w.1[j]? = some c) (hsz : H1.size = H.size) (ho : ∀ q : Nat, q ≠ B + j → H1[q]? = H[q]?) (hc : va_at D mx_cl (B + j, mx_c cy r c') H1) : mx_R D cy r B (w.1.set j c', w.2) H1 := by
  obtain ⟨h1, h2, h3⟩ := h
  refine ⟨fun q => by simp [hsz, h1 q], by simpa using h2, fun i c2 hi hd => ?_⟩
  dsimp only at hi
  by_cases hij : i = j
  · subst hij
    rw [show (w.1.set i c')[i]? = some c' by simp [(List.getElem?_eq_some_iff.mp hj).1]] at hi
    cases hi
    exact hc
  · rw [List.getElem?_set_ne (Ne.symm hij)] at hi
    exact (h3 i c2 hi hd).kept (ho (B + i) (by omega))
/-- a cell is given up -/
theorem mx_R.dead {D : va_G} {cy : Nat → ClassId} {r : Nat → Value} {B : Nat} {w : mW} {H : Heap} {j : Nat} {c' : mE} (h : mx_R D cy r B w H) (hc : mx_dd c' = true) : mx_R D cy r B (w.1.set j c', w.2) H := by
  obtain ⟨h1, h2, h3⟩ := h
  refine ⟨fun q => by simp [h1 q], by simpa using h2, fun i c2 hi hd => ?_⟩
  dsimp only at hi
  by_cases hij : i = j
  · subst hij
    rw [List.getElem?_set] at hi
    simp only [↓reduceIte] at hi
    split at hi
    · cases hi
      rw [hc] at hd
      cases hd
    · cases hi
  · rw [List.getElem?_set_ne (Ne.symm hij)] at hi
    exact h3 i c2 hi hd
/-- a cell is made -/
theorem mx_R.push {D : va_G} {cy : Nat → ClassId} {r : Nat → Value} {B : Nat} {w : mW} {H H1 : Heap} {c : mE} {n : Nat} (h : mx_R D cy r B w H) (hl : w.1.length < mx_E) (hsz : H1.size = H.size + 1) (ho : ∀ q : Nat, q < H.size → H1[q]? = H[q]?) (hc : va_at D mx_cl (B + w.1.length, mx_c cy r c) H1) : mx_R D cy r B (w.1 ++ [c], w.2 + n) H1 := by
  obtain ⟨h1, h2, h3⟩ := h
  refine ⟨fun q => by simp [hsz, h1 q]; omega, by simp; omega, fun i c2 hi hd => ?_⟩
  dsimp only at hi
  by_cases hil : i < w.1.length
  · rw [List.getElem?_append_left hil] at hi
    have h5 := h3 i c2 hi hd
    exact h5.kept (ho _ h5.lt)
  · rw [List.getElem?_append_right (by omega)] at hi
    have hz : i - w.1.length < 1 := by simpa using (List.getElem?_eq_some_iff.mp hi).1
    have e1 : i = w.1.length := by omega
    subst e1
    simp only [Nat.sub_self] at hi
    cases hi
    exact hc
end
section
/-! ### the steps -/
theorem mx_blt {a b : Nat} (h : Nat.blt a b = true) : a < b := Nat.le_of_ble_eq_true h
def mx_pure (i : Instr) (st : List Value) : Option (List Value) := match i, st with
  | .iconst n, st => some (.int (Int32.ofInt n) :: st)
  | .bipush n, st => some (.int (Int8.ofInt n).toInt32 :: st)
  | .sipush n, st => some (.int (Int16.ofInt n).toInt32 :: st)
  | .lconst n, st => some (.long (Int64.ofNat (n : Nat)) :: st)
  | .iadd, .int y :: .int x :: st => some (.int (x + y) :: st)
  | .isub, .int y :: .int x :: st => some (.int (x - y) :: st)
  | .imul, .int y :: .int x :: st => some (.int (x * y) :: st)
  | .iand, .int y :: .int x :: st => some (.int (x &&& y) :: st)
  | .ior, .int y :: .int x :: st => some (.int (x ||| y) :: st)
  | .ixor, .int y :: .int x :: st => some (.int (x ^^^ y) :: st)
  | .idiv, .int y :: .int x :: st => if y = 0 then none else some (.int (x / y) :: st)
  | .irem, .int y :: .int x :: st => if y = 0 then none else some (.int (x - x / y * y) :: st)
  | .ishl, .int y :: .int x :: st => some (.int (x <<< (y &&& 31)) :: st)
  | .ishr, .int y :: .int x :: st => some (.int (x >>> (y &&& 31)) :: st)
  | .iushr, .int y :: .int x :: st => some (.int (x.toUInt32 >>> (y.toUInt32 &&& Int32.toUInt32 31)).toInt32 :: st)
  | .i2l, .int x :: st => some (.long x.toInt64 :: st)
  | .l2i, .long x :: st => some (.int x.toInt32 :: st)
  | .i2b, .int x :: st => some (.int x.toInt8.toInt32 :: st)
  | .i2c, .int x :: st => some (.int (x.toUInt32 % 65536).toInt32 :: st)
  | .land, .long y :: .long x :: st => some (.long (x &&& y) :: st)
  | .lor, .long y :: .long x :: st => some (.long (x ||| y) :: st)
  | .lshl, .int y :: .long x :: st => some (.long (x <<< (y.toInt64 &&& 63)) :: st)
  | .lshr, .int y :: .long x :: st => some (.long (x >>> (y.toInt64 &&& 63)) :: st)
  | .lushr, .int y :: .long x :: st => some (.long (x.toUInt64 >>> (y.toInt64.toUInt64 &&& Int64.toUInt64 63)).toInt64 :: st)
  | .lcmp, .long y :: .long x :: st => some (.int (lg_cmp x y) :: st)
  | .dup, v :: st => if v.category = 1 then some (v :: v :: st) else none
  | .pop, v :: st => if v.category = 1 then some st else none
  | .dup2, v :: u :: st => if v.category = 1 ∧ u.category = 1 then some (v :: u :: v :: u :: st) else if v.category = 2 then some (v :: v :: u :: st) else none
  | _, _ => none
def mx_len (i : Instr) : Nat := match i with
  | .bipush _ | .iload _ | .lload _ | .aload _ | .istore _ | .lstore _ | .astore _ | .ldc _ | .newarray _ => 2
  | .sipush _ | .iinc _ _ | .ldc2_w _ | .getfield _ | .putfield _ | .invokevirtual _ | .invokestatic _ | .invokespecial _ | .new _ | .goto _ | .ifCond _ _ | .if_icmp _ _ => 3
  | _ => 1
def mx_st1 (lv : List (Nat × Value)) (i : Nat) (v : Value) : List (Nat × Value) := (i, v) :: lv.filter (fun q => !(q.1 == i) && !(q.1 + 1 == i && q.2.category == 2))
def mx_st2 (lv : List (Nat × Value)) (i : Nat) (v : Value) : List (Nat × Value) := (i, v) :: lv.filter (fun q => !(q.1 == i) && (!(q.1 == i + 1) && !(q.1 + 1 == i && q.2.category == 2)))
def mx_isI (v : Value) : Bool := match v with
  | .int _ => true
  | .ref j => Nat.blt mx_E j
  | _ => false
def mx_isL (v : Value) : Bool := match v with
  | .long _ => true
  | .double k => decide (k = 77)
  | _ => false
def mx_isA (v : Value) : Bool := match v with
  | .null => true
  | .ref j => Nat.ble j mx_E
  | _ => false
def mx_loc (nL : Nat) (i : Instr) (lv : List (Nat × Value)) (st : List Value) : Option (List (Nat × Value) × List Value) := match i, st with
  | .iload_n n, st => match lv.lookup (n : Nat) with | some v => if mx_isI v then some (lv, v :: st) else none | none => none
  | .iload n, st => match lv.lookup n with | some v => if mx_isI v then some (lv, v :: st) else none | none => none
  | .lload_n n, st => match lv.lookup (n : Nat) with | some v => if mx_isL v then some (lv, v :: st) else none | none => none
  | .lload n, st => match lv.lookup n with | some v => if mx_isL v then some (lv, v :: st) else none | none => none
  | .aload_n n, st => match lv.lookup (n : Nat) with | some v => if mx_isA v then some (lv, v :: st) else none | none => none
  | .aload n, st => match lv.lookup n with | some v => if mx_isA v then some (lv, v :: st) else none | none => none
  | .istore_n n, v :: st => if mx_isI v && Nat.blt (n : Nat) nL then some (mx_st1 lv n v, st) else none
  | .istore n, v :: st => if mx_isI v && Nat.blt n nL then some (mx_st1 lv n v, st) else none
  | .lstore_n n, v :: st => if mx_isL v && Nat.blt ((n : Nat) + 1) nL then some (mx_st2 lv n v, st) else none
  | .lstore n, v :: st => if mx_isL v && Nat.blt (n + 1) nL then some (mx_st2 lv n v, st) else none
  | .astore_n n, v :: st => if mx_isA v && Nat.blt (n : Nat) nL then some (mx_st1 lv n v, st) else none
  | .astore n, v :: st => if mx_isA v && Nat.blt n nL then some (mx_st1 lv n v, st) else none
  | .iinc n k, st => match lv.lookup n with | some (.int x) => if Nat.blt n nL then some (mx_st1 lv n (.int (x + Int32.ofInt k)), st) else none | _ => none
  | _, _ => none
def mx_cmp (c : ClassFile.Cond) (x y : Int32) : Bool := match c with
  | .eq => decide (x = y) | .ne => decide (¬ x = y) | .lt => decide (x < y) | .ge => decide (y ≤ x) | .gt => decide (y < x) | .le => decide (x ≤ y)
def mx_tg (pc : Nat) (off : Int) : Option Nat := match (pc : Int) + off with
  | .ofNat t => some t
  | _ => none
/-- what is known of numbers that are names -/
def mx_kf (kb : mK) (k : ClassFile.Cond × Value × Value) : Option Bool := match kb.find? (fun e => decide (e.1 = k)) with
  | some e => some e.2
  | none => none
def mx_kb (kb : mK) (r : Nat → Value) : Prop := ∀ e ∈ kb, ∀ x y : Int32, mx_v r e.1.2.1 = .int x → mx_v r e.1.2.2 = .int y → mx_cmp e.1.1 x y = e.2
def mx_dec (kb : mK) (c : ClassFile.Cond) (v u : Value) : Option Bool := match v, u with
  | .int x, .int y => some (mx_cmp c x y)
  | v, u => if mx_isI v && mx_isI u then mx_kf kb (c, v, u) else none
def mx_br (kb : mK) (pc : Nat) (i : Instr) (st : List Value) : Option (Nat × List Value) := match i, st with
  | .goto off, st => match mx_tg pc off with | some t => some (t, st) | none => none
  | .ifCond c off, v :: st => match mx_tg pc off with | some t => (match mx_dec kb c v (.int 0) with | some true => some (t, st) | some false => some (pc + 3, st) | none => none) | none => none
  | .if_icmp c off, u :: v :: st => match mx_tg pc off with | some t => (match mx_dec kb c v u with | some true => some (t, st) | some false => some (pc + 3, st) | none => none) | none => none
  | .tableswitch dflt lo hi offs, .int x :: st => if x.toInt < lo ∨ hi < x.toInt then (match mx_tg pc dflt with | some t => some (t, st) | none => none) else
      match offs[(x.toInt - lo).toNat]? with | some off => (match mx_tg pc off with | some t => some (t, st) | none => none) | none => none
  | .tableswitch dflt lo hi _, v :: st => if mx_isI v && ((decide (mx_kf kb (.lt, v, .int (Int32.ofInt lo)) = some true) && decide ((Int32.ofInt lo).toInt = lo)) || (decide (mx_kf kb (.gt, v, .int (Int32.ofInt hi)) = some true) && decide ((Int32.ofInt hi).toInt = hi))) then (match mx_tg pc dflt with | some t => some (t, st) | none => none) else none
  | _, _ => none
theorem mx_kf_spec {kb : mK} {r : Nat → Value} (hkb : mx_kb kb r) {c : ClassFile.Cond} {v u : Value} {b : Bool} (h : mx_kf kb (c, v, u) = some b) {x y : Int32} (hx : mx_v r v = .int x) (hy : mx_v r u = .int y) : mx_cmp c x y = b := by
  unfold mx_kf at h
  split at h
  · rename_i e he
    have h1 := List.find?_some he
    simp only [decide_eq_true_eq] at h1
    have h2 := hkb e (List.mem_of_find?_eq_some he) x y
    rw [h1] at h2
    cases h
    exact h2 hx hy
  · cases h
theorem mx_tg_spec {pc : Nat} {off : Int} {t : Nat} (h : mx_tg pc off = some t) : (pc : Int) + off = (t : Int) := by
  unfold mx_tg at h
  split at h
  · cases h; assumption
  · cases h
section MX
variable {p : Program} {l : Launch} {e : Env} {R : Room} {s : State} {m : MethodId} {args : Array Value} {below : List Frame} {meth : Method} {c : Code} {H : Heap} {locs : List Loc} {cells slots : Nat} {Q : State → Prop}
variable {cc : ByteArray} {pc nL : Nat} {ls : Array Slot} {r : Nat → Value} {B : Nat}
set_option maxHeartbeats 4000000 in
theorem mx_pure_W (hx : p.tables.exec = Jvm.exec) (hb : c.code = cc) (hr : mx_r r B) {i : Instr} {st st' : List Value} (hd : decode cc pc = .ok (i, mx_len i)) (h : mx_pure i st = some st')
    (k : W p l e R s m args below meth c H locs cells slots Q (F0 m (pc + mx_len i) ls (st'.map (mx_v r)))) : W p l e R s m args below meth c H locs cells slots Q (F0 m pc ls (st.map (mx_v r))) := by
  unfold mx_pure at h
  split at h
  case h_1 => cases h; exact lv_iconst hx hb hd rfl k
  case h_2 => cases h; exact lv_bipush hx hb hd rfl k
  case h_3 => cases h; exact lv_sipush hx hb hd rfl k
  case h_4 => cases h; exact lv_lconst hx hb hd rfl k
  case h_5 => cases h; exact lv_iadd hx hb hd k
  case h_6 => cases h; exact lv_isub hx hb hd k
  case h_7 => cases h; exact lv_imul hx hb hd k
  case h_8 => cases h; exact lv_iand hx hb hd k
  case h_9 => cases h; exact lv_ior hx hb hd k
  case h_10 => cases h; exact lv_ixor hx hb hd k
  case h_11 =>
    split at h
    · cases h
    · cases h; exact lv_idiv hx hb hd (by assumption) k
  case h_12 =>
    split at h
    · cases h
    · cases h; exact lv_irem hx hb hd (by assumption) k
  case h_13 => cases h; exact lv_ishl hx hb hd k
  case h_14 => cases h; exact lv_ishr hx hb hd k
  case h_15 => cases h; exact lv_iushr hx hb hd rfl k
  case h_16 => cases h; exact lv_i2l hx hb hd rfl k
  case h_17 => cases h; exact lv_l2i hx hb hd rfl k
  case h_18 => cases h; exact lv_i2b hx hb hd rfl k
  case h_19 => cases h; exact lv_i2c hx hb hd rfl k
  case h_20 => cases h; exact lv_land hx hb hd k
  case h_21 => cases h; exact lv_lor hx hb hd k
  case h_22 => cases h; exact lv_lshl hx hb hd rfl k
  case h_23 => cases h; exact lv_lshr hx hb hd rfl k
  case h_24 => cases h; exact lv_lushr hx hb hd rfl k
  case h_25 => cases h; exact W.lcmp hx hb hd k
  case h_26 =>
    split at h
    · cases h; exact lv_dup hx hb hd (by rw [mx_cat hr]; assumption) k
    · cases h
  case h_27 =>
    split at h
    · cases h; exact lv_pop hx hb hd (by rw [mx_cat hr]; assumption) k
    · cases h
  case h_28 =>
    split at h
    · rename_i hc
      cases h; exact lv_dup2_11 hx hb hd (by rw [mx_cat hr]; exact hc.1) (by rw [mx_cat hr]; exact hc.2) k
    · split at h
      · cases h; exact lv_dup2_2 hx hb hd (by rw [mx_cat hr]; assumption) k
      · cases h
  case h_29 => cases h
/-- the locals as the machine has them -/
def mx_lv (r : Nat → Value) (lv : List (Nat × Value)) : List (Nat × Value) := lv.map (fun q => (q.1, mx_v r q.2))
theorem mx_lk {lv : List (Nat × Value)} {i : Nat} {v : Value} (h : lv.lookup i = some v) : (i, v) ∈ lv := by
  induction lv with
  | nil => simp at h
  | cons q t ih =>
    obtain ⟨j, u⟩ := q
    by_cases hj : i = j
    · subst hj
      simp [List.lookup] at h
      simp [h]
    · have : (i == j) = false := by simpa using hj
      simp [List.lookup, this] at h
      exact List.mem_cons_of_mem _ (ih h)
theorem mx_lv_at {lv : List (Nat × Value)} {i : Nat} {v : Value} (hl : lv_has ls nL (mx_lv r lv)) (h : lv.lookup i = some v) : ls[i]? = some (.val (mx_v r v)) :=
  hl.2.2 (i, mx_v r v) (List.mem_map.mpr ⟨(i, v), mx_lk h, rfl⟩)
theorem mx_lv_st1 (hr : mx_r r B) (lv : List (Nat × Value)) (i : Nat) (v : Value) : (i, mx_v r v) :: (mx_lv r lv).filter (fun q => !(q.1 == i) && !(q.1 + 1 == i && q.2.category == 2)) = mx_lv r (mx_st1 lv i v) := by
  simp only [mx_lv, mx_st1, List.map_cons, List.filter_map]
  congr 2
  apply List.filter_congr
  intro q _
  simp [Function.comp, mx_cat hr]
theorem mx_lv_st2 (hr : mx_r r B) (lv : List (Nat × Value)) (i : Nat) (v : Value) : (i, mx_v r v) :: (mx_lv r lv).filter (fun q => !(q.1 == i) && (!(q.1 == i + 1) && !(q.1 + 1 == i && q.2.category == 2))) = mx_lv r (mx_st2 lv i v) := by
  simp only [mx_lv, mx_st2, List.map_cons, List.filter_map]
  congr 2
  apply List.filter_congr
  intro q _
  simp [Function.comp, mx_cat hr]
theorem mx_isI_spec (hr : mx_r r B) {v : Value} (h : mx_isI v = true) : ∃ x : Int32, mx_v r v = .int x := by
  unfold mx_isI at h
  split at h
  · exact ⟨_, rfl⟩
  · exact hr.2.2 _ (mx_blt h)
  · cases h
theorem mx_isL_spec {v : Value} (h : mx_isL v = true) : ∃ x : Int64, mx_v r v = .long x := by
  unfold mx_isL at h
  split at h
  · exact ⟨_, rfl⟩
  · simp only [decide_eq_true_eq] at h
    exact ⟨_, by simp only [mx_v]; rw [if_pos h]⟩
  · cases h
theorem mx_isA_spec (hr : mx_r r B) {v : Value} (h : mx_isA v = true) : mx_v r v = .null ∨ ∃ a, mx_v r v = .ref a := by
  unfold mx_isA at h
  split at h
  · exact Or.inl rfl
  · exact Or.inr (hr.ref (by simpa using h))
  · cases h
set_option maxHeartbeats 4000000 in
theorem mx_loc_W (hx : p.tables.exec = Jvm.exec) (hb : c.code = cc) (hr : mx_r r B) {i : Instr} {lv lv' : List (Nat × Value)} {st st' : List Value} (hl : lv_has ls nL (mx_lv r lv)) (hd : decode cc pc = .ok (i, mx_len i)) (h : mx_loc nL i lv st = some (lv', st'))
    (k : ∀ ls' : Array Slot, lv_has ls' nL (mx_lv r lv') → W p l e R s m args below meth c H locs cells slots Q (F0 m (pc + mx_len i) ls' (st'.map (mx_v r)))) : W p l e R s m args below meth c H locs cells slots Q (F0 m pc ls (st.map (mx_v r))) := by
  unfold mx_loc at h
  split at h
  case h_1 n st =>
    split at h
    · rename_i v hv
      split at h
      · rename_i hi
        cases h
        have k := k ls hl
        obtain ⟨x, hx2⟩ := mx_isI_spec hr hi
        have h2 := mx_lv_at hl hv
        simp only [List.map_cons, hx2] at k h2
        exact lv_iload_n hx hb hd rfl h2 k
      · cases h
    · cases h
  case h_2 n st =>
    split at h
    · rename_i v hv
      split at h
      · rename_i hi
        cases h
        have k := k ls hl
        obtain ⟨x, hx2⟩ := mx_isI_spec hr hi
        have h2 := mx_lv_at hl hv
        simp only [List.map_cons, hx2] at k h2
        exact lv_iload hx hb hd h2 k
      · cases h
    · cases h
  case h_3 n st =>
    split at h
    · rename_i v hv
      split at h
      · rename_i hi
        cases h
        have k := k ls hl
        obtain ⟨x, hx2⟩ := mx_isL_spec (r := r) hi
        have h2 := mx_lv_at hl hv
        simp only [List.map_cons, hx2] at k h2
        exact lv_lload_n hx hb hd rfl h2 k
      · cases h
    · cases h
  case h_4 n st =>
    split at h
    · rename_i v hv
      split at h
      · rename_i hi
        cases h
        have k := k ls hl
        obtain ⟨x, hx2⟩ := mx_isL_spec (r := r) hi
        have h2 := mx_lv_at hl hv
        simp only [List.map_cons, hx2] at k h2
        exact lv_lload hx hb hd h2 k
      · cases h
    · cases h
  case h_5 n st =>
    split at h
    · rename_i v hv
      split at h
      · rename_i hi
        cases h
        have k := k ls hl
        have h2 := mx_lv_at hl hv
        rcases mx_isA_spec hr hi with hx2 | ⟨x, hx2⟩ <;> simp only [List.map_cons, hx2] at k h2
        · exact lv_aload_nN hx hb hd rfl h2 k
        · exact lv_aload_n hx hb hd rfl h2 k
      · cases h
    · cases h
  case h_6 n st =>
    split at h
    · rename_i v hv
      split at h
      · rename_i hi
        cases h
        have k := k ls hl
        have h2 := mx_lv_at hl hv
        rcases mx_isA_spec hr hi with hx2 | ⟨x, hx2⟩ <;> simp only [List.map_cons, hx2] at k h2
        · exact lv_aloadN hx hb hd h2 k
        · exact lv_aload hx hb hd h2 k
      · cases h
    · cases h
  case h_7 n v st =>
    split at h
    · rename_i hi
      simp only [Bool.and_eq_true] at hi
      cases h
      obtain ⟨x, hx2⟩ := mx_isI_spec hr hi.1
      have hn : (n : Nat) < nL := mx_blt hi.2
      have e1 := mx_lv_st1 hr lv (n : Nat) v
      simp only [List.map_cons, hx2] at e1 ⊢
      exact lv_istore_n hx hb hd rfl hl hn e1 k
    · cases h
  case h_8 n v st =>
    split at h
    · rename_i hi
      simp only [Bool.and_eq_true] at hi
      cases h
      obtain ⟨x, hx2⟩ := mx_isI_spec hr hi.1
      have hn : n < nL := mx_blt hi.2
      have e1 := mx_lv_st1 hr lv n v
      simp only [List.map_cons, hx2] at e1 ⊢
      exact lv_istore hx hb hd hl hn e1 k
    · cases h
  case h_9 n v st =>
    split at h
    · rename_i hi
      simp only [Bool.and_eq_true] at hi
      cases h
      obtain ⟨x, hx2⟩ := mx_isL_spec (r := r) hi.1
      have hn : (n : Nat) + 1 < nL := mx_blt hi.2
      have e1 := mx_lv_st2 hr lv (n : Nat) v
      simp only [List.map_cons, hx2] at e1 ⊢
      exact lv_lstore_n hx hb hd rfl hl hn e1 k
    · cases h
  case h_10 n v st =>
    split at h
    · rename_i hi
      simp only [Bool.and_eq_true] at hi
      cases h
      obtain ⟨x, hx2⟩ := mx_isL_spec (r := r) hi.1
      have hn : n + 1 < nL := mx_blt hi.2
      have e1 := mx_lv_st2 hr lv n v
      simp only [List.map_cons, hx2] at e1 ⊢
      exact lv_lstore hx hb hd hl hn e1 k
    · cases h
  case h_11 n v st =>
    split at h
    · rename_i hi
      simp only [Bool.and_eq_true] at hi
      cases h
      have hn : (n : Nat) < nL := mx_blt hi.2
      have e1 := mx_lv_st1 hr lv (n : Nat) v
      rcases mx_isA_spec hr hi.1 with hx2 | ⟨x, hx2⟩ <;> simp only [List.map_cons, hx2] at e1 ⊢
      · exact lv_astore_nN hx hb hd rfl hl hn e1 k
      · exact lv_astore_n hx hb hd rfl hl hn e1 k
    · cases h
  case h_12 n v st =>
    split at h
    · rename_i hi
      simp only [Bool.and_eq_true] at hi
      cases h
      have hn : n < nL := mx_blt hi.2
      have e1 := mx_lv_st1 hr lv n v
      rcases mx_isA_spec hr hi.1 with hx2 | ⟨x, hx2⟩ <;> simp only [List.map_cons, hx2] at e1 ⊢
      · exact lv_astoreN hx hb hd hl hn e1 k
      · exact lv_astore hx hb hd hl hn e1 k
    · cases h
  case h_13 st n kk =>
    split at h
    · rename_i x hv
      split at h
      · rename_i hi
        cases h
        have hn : n < nL := mx_blt hi
        have e1 := mx_lv_st1 hr lv n (.int (x + Int32.ofInt kk))
        have hm : ((n, Value.int x) : Nat × Value) ∈ mx_lv r lv := List.mem_map.mpr ⟨(n, .int x), mx_lk hv, rfl⟩
        obtain ⟨q, hq⟩ := List.getElem?_of_mem hm
        exact lv_iinc hx hb hd hl hq rfl hn e1 k
      · cases h
    · cases h
  case h_14 => cases h
theorem mx_dec_spec {kb : mK} (hkb : mx_kb kb r) (hr : mx_r r B) {cn : ClassFile.Cond} {v u : Value} {b : Bool} (h : mx_dec kb cn v u = some b) : ∃ x y : Int32, mx_v r v = .int x ∧ mx_v r u = .int y ∧ mx_cmp cn x y = b := by
  unfold mx_dec at h
  split at h
  · cases h; exact ⟨_, _, rfl, rfl, rfl⟩
  · split at h
    · rename_i hi
      simp only [Bool.and_eq_true] at hi
      obtain ⟨x, hx⟩ := mx_isI_spec hr hi.1
      obtain ⟨y, hy⟩ := mx_isI_spec hr hi.2
      exact ⟨x, y, hx, hy, mx_kf_spec hkb h hx hy⟩
    · cases h
set_option maxHeartbeats 4000000 in
theorem mx_br_W (hx : p.tables.exec = Jvm.exec) (hb : c.code = cc) {kb : mK} (hkb : mx_kb kb r) (hr : mx_r r B) {i : Instr} {st st' : List Value} {pc' len : Nat} (hd : decode cc pc = .ok (i, len)) (hlen : len = mx_len i ∨ ∃ a b d f, i = .tableswitch a b d f) (h : mx_br kb pc i st = some (pc', st'))
    (k : W p l e R s m args below meth c H locs cells slots Q (F0 m pc' ls (st'.map (mx_v r)))) : W p l e R s m args below meth c H locs cells slots Q (F0 m pc ls (st.map (mx_v r))) := by
  unfold mx_br at h
  split at h
  case h_1 st off =>
    have hl : len = 3 := by
      rcases hlen with h | ⟨a, b, d, f, h⟩
      · exact h
      · cases h
    subst hl
    split at h
    · rename_i t ht
      cases h
      exact lv_goto hx hb hd (mx_tg_spec ht) k
    · cases h
  case h_2 cnd off v st =>
    have hl : len = 3 := by
      rcases hlen with h | ⟨a, b, d, f, h⟩
      · exact h
      · cases h
    subst hl
    split at h
    · rename_i t ht
      have ht := mx_tg_spec ht
      split at h
      · rename_i hdec
        obtain ⟨x, y, hv, hu, hc⟩ := mx_dec_spec hkb hr hdec
        cases hu
        cases h
        rw [List.map_cons, hv]
        cases cnd <;> simp only [mx_cmp, decide_eq_true_eq] at hc
        · exact lv_if_eq hx hb hd ht (fun _ => k) (fun q => absurd hc q)
        · exact lv_if_ne hx hb hd ht (fun _ => k) (fun q => absurd q hc)
        · exact lv_if_lt hx hb hd ht (fun _ => k) (fun q => absurd hc q)
        · exact lv_if_ge hx hb hd ht (fun _ => k) (fun q => absurd hc q)
        · exact lv_if_gt hx hb hd ht (fun _ => k) (fun q => absurd hc q)
        · exact lv_if_le hx hb hd ht (fun _ => k) (fun q => absurd hc q)
      · rename_i hdec
        obtain ⟨x, y, hv, hu, hc⟩ := mx_dec_spec hkb hr hdec
        cases hu
        cases h
        rw [List.map_cons, hv]
        cases cnd <;> simp only [mx_cmp, decide_eq_false_iff_not] at hc
        · exact lv_if_eq hx hb hd ht (fun q => absurd q hc) (fun _ => k)
        · exact lv_if_ne hx hb hd ht (fun q => absurd q hc) (fun _ => k)
        · exact lv_if_lt hx hb hd ht (fun q => absurd q hc) (fun _ => k)
        · exact lv_if_ge hx hb hd ht (fun q => absurd q hc) (fun _ => k)
        · exact lv_if_gt hx hb hd ht (fun q => absurd q hc) (fun _ => k)
        · exact lv_if_le hx hb hd ht (fun q => absurd q hc) (fun _ => k)
      · cases h
    · cases h
  case h_3 cnd off u v st =>
    have hl : len = 3 := by
      rcases hlen with h | ⟨a, b, d, f, h⟩
      · exact h
      · cases h
    subst hl
    split at h
    · rename_i t ht
      have ht := mx_tg_spec ht
      split at h
      · rename_i hdec
        obtain ⟨x, y, hv, hu, hc⟩ := mx_dec_spec hkb hr hdec
        cases h
        rw [List.map_cons, List.map_cons, hv, hu]
        cases cnd <;> simp only [mx_cmp, decide_eq_true_eq] at hc
        · exact lv_icmp_eq hx hb hd ht (fun _ => k) (fun q => absurd hc q)
        · exact lv_icmp_ne hx hb hd ht (fun _ => k) (fun q => absurd q hc)
        · exact lv_icmp_lt hx hb hd ht (fun _ => k) (fun q => absurd hc q)
        · exact lv_icmp_ge hx hb hd ht (fun _ => k) (fun q => absurd hc q)
        · exact lv_icmp_gt hx hb hd ht (fun _ => k) (fun q => absurd hc q)
        · exact lv_icmp_le hx hb hd ht (fun _ => k) (fun q => absurd hc q)
      · rename_i hdec
        obtain ⟨x, y, hv, hu, hc⟩ := mx_dec_spec hkb hr hdec
        cases h
        rw [List.map_cons, List.map_cons, hv, hu]
        cases cnd <;> simp only [mx_cmp, decide_eq_false_iff_not] at hc
        · exact lv_icmp_eq hx hb hd ht (fun q => absurd q hc) (fun _ => k)
        · exact lv_icmp_ne hx hb hd ht (fun q => absurd q hc) (fun _ => k)
        · exact lv_icmp_lt hx hb hd ht (fun q => absurd q hc) (fun _ => k)
        · exact lv_icmp_ge hx hb hd ht (fun q => absurd q hc) (fun _ => k)
        · exact lv_icmp_gt hx hb hd ht (fun q => absurd q hc) (fun _ => k)
        · exact lv_icmp_le hx hb hd ht (fun q => absurd q hc) (fun _ => k)
      · cases h
    · cases h
  case h_4 dflt lo hi offs x st =>
    split at h
    · rename_i hc
      split at h
      · rename_i t ht
        cases h
        exact lv_tableOut hx hb hd hc (mx_tg_spec ht) k
      · cases h
    · rename_i hc
      split at h
      · rename_i off ho
        split at h
        · rename_i t ht
          cases h
          exact lv_tableIn hx hb hd (fun q => hc (Or.inl q)) (fun q => hc (Or.inr q)) ho (mx_tg_spec ht) k
        · cases h
      · cases h
  case h_5 =>
    rename_i dflt lo hi offs v st0 hnv
    split at h
    · rename_i hc
      simp only [Bool.and_eq_true, Bool.or_eq_true, decide_eq_true_eq] at hc
      split at h
      · rename_i t ht
        cases h
        obtain ⟨x, hv⟩ := mx_isI_spec hr hc.1
        rw [List.map_cons, hv]
        refine lv_tableOut hx hb hd ?_ (mx_tg_spec ht) k
        rcases hc.2 with ⟨h1, h2⟩ | ⟨h1, h2⟩
        · left
          have h3 := mx_kf_spec hkb h1 hv (rfl : mx_v r (.int _) = _)
          simp only [mx_cmp, decide_eq_true_eq] at h3
          have h4 := Int32.lt_iff_toInt_lt.mp h3
          rw [h2] at h4
          exact h4
        · right
          have h3 := mx_kf_spec hkb h1 hv (rfl : mx_v r (.int _) = _)
          simp only [mx_cmp, decide_eq_true_eq] at h3
          have h4 := Int32.lt_iff_toInt_lt.mp h3
          rw [h2] at h4
          exact h4
      · cases h
    · cases h
  case h_6 => cases h
end MX
end
section
/-! ### the classes that are made: their words among the tables' -/
theorem mx_ws_of {ws : List Cond} (ps : List Nat) (hp : ws = ps.filterMap (fun i => lw_tbl[i]?)) (h : ws.all mx_ok = true) : ∀ w ∈ ws, w ∈ lw_tbl ∧ mx_ok w = true := by
  intro w hw
  have h1 := List.all_eq_true.mp h w hw
  rw [hp] at hw
  obtain ⟨i, -, hi⟩ := List.mem_filterMap.mp hw
  exact ⟨List.mem_of_getElem? hi, h1⟩
set_option maxRecDepth 100000 in
theorem mx_ws0 : ∀ w ∈ u_ws RX0 TX0 15, w ∈ lw_tbl ∧ mx_ok w = true := mx_ws_of [532, 534, 536, 538, 540, 542, 544, 546, 548, 550, 552, 554, 556, 558, 560] (by decide +kernel) (by decide +kernel)
theorem mx_in0 : mx_at 471 (.instantiable RX0 15) = true ∧ mx_at 155 (.initialized RX0) = true := by decide +kernel
theorem mx_dc0 : ∀ k, k < 15 → (TX0 k).1 = RX0 := by decide +kernel
set_option maxRecDepth 100000 in
theorem mx_ws1 : ∀ w ∈ u_ws RX1 TX1 7, w ∈ lw_tbl ∧ mx_ok w = true := mx_ws_of [285, 287, 289, 291, 293, 295, 297] (by decide +kernel) (by decide +kernel)
theorem mx_in1 : mx_at 270 (.instantiable RX1 7) = true ∧ mx_at 150 (.initialized RX1) = true := by decide +kernel
theorem mx_dc1 : ∀ k, k < 7 → (TX1 k).1 = RX1 := by decide +kernel
set_option maxRecDepth 100000 in
theorem mx_ws2 : ∀ w ∈ u_ws RX2 TX2 5, w ∈ lw_tbl ∧ mx_ok w = true := mx_ws_of [252, 254, 256, 258, 260] (by decide +kernel) (by decide +kernel)
theorem mx_in2 : mx_at 240 (.instantiable RX2 5) = true ∧ mx_at 148 (.initialized RX2) = true := by decide +kernel
theorem mx_dc2 : ∀ k, k < 5 → (TX2 k).1 = RX2 := by decide +kernel
set_option maxRecDepth 100000 in
theorem mx_ws3 : ∀ w ∈ u_ws RX3 TX3 11, w ∈ lw_tbl ∧ mx_ok w = true := mx_ws_of [447, 449, 451, 453, 455, 457, 459, 461, 463, 465, 467] (by decide +kernel) (by decide +kernel)
theorem mx_in3 : mx_at 424 (.instantiable RX3 11) = true ∧ mx_at 154 (.initialized RX3) = true := by decide +kernel
theorem mx_dc3 : ∀ k, k < 11 → (TX3 k).1 = RX3 := by decide +kernel
set_option maxRecDepth 100000 in
theorem mx_ws4 : ∀ w ∈ u_ws RX4 TX4 15, w ∈ lw_tbl ∧ mx_ok w = true := mx_ws_of [392, 394, 396, 398, 400, 402, 404, 406, 408, 410, 412, 414, 416, 418, 420] (by decide +kernel) (by decide +kernel)
theorem mx_in4 : mx_at 264 (.instantiable RX4 15) = true ∧ mx_at 149 (.initialized RX4) = true := by decide +kernel
theorem mx_dc4 : ∀ k, k < 15 → (TX4 k).1 = RX4 := by decide +kernel
set_option maxRecDepth 100000 in
theorem mx_ws5 : ∀ w ∈ u_ws RX5 TX5 9, w ∈ lw_tbl ∧ mx_ok w = true := mx_ws_of [196, 198, 200, 202, 204, 206, 208, 210, 212] (by decide +kernel) (by decide +kernel)
theorem mx_in5 : mx_at 178 (.instantiable RX5 9) = true ∧ mx_at 146 (.initialized RX5) = true := by decide +kernel
theorem mx_dc5 : ∀ k, k < 9 → (TX5 k).1 = RX5 := by decide +kernel
set_option maxRecDepth 100000 in
theorem mx_ws6 : ∀ w ∈ u_ws RX6 TX6 9, w ∈ lw_tbl ∧ mx_ok w = true := mx_ws_of [491, 493, 495, 497, 499, 501, 503, 505, 507] (by decide +kernel) (by decide +kernel)
theorem mx_in6 : mx_at 477 (.instantiable RX6 9) = true ∧ mx_at 156 (.initialized RX6) = true := by decide +kernel
theorem mx_dc6 : ∀ k, k < 9 → (TX6 k).1 = RX6 := by decide +kernel
set_option maxRecDepth 100000 in
theorem mx_ws7 : ∀ w ∈ u_ws RX7 TX7 4, w ∈ lw_tbl ∧ mx_ok w = true := mx_ws_of [230, 232, 234, 236] (by decide +kernel) (by decide +kernel)
theorem mx_in7 : mx_at 218 (.instantiable RX7 4) = true ∧ mx_at 147 (.initialized RX7) = true := by decide +kernel
theorem mx_dc7 : ∀ k, k < 4 → (TX7 k).1 = RX7 := by decide +kernel
set_option maxRecDepth 100000 in
theorem mx_ws8 : ∀ w ∈ u_ws RX8 TX8 8, w ∈ lw_tbl ∧ mx_ok w = true := mx_ws_of [618, 620, 622, 624, 626, 628, 630, 632] (by decide +kernel) (by decide +kernel)
theorem mx_in8 : mx_at 170 (.instantiable RX8 8) = true ∧ mx_at 145 (.initialized RX8) = true := by decide +kernel
theorem mx_dc8 : ∀ k, k < 8 → (TX8 k).1 = RX8 := by decide +kernel
set_option maxRecDepth 100000 in
theorem mx_ws9 : ∀ w ∈ u_ws RX9 TX9 77, w ∈ lw_tbl ∧ mx_ok w = true := mx_ws_of [1370, 1372, 1374, 1376, 1378, 1380, 1382, 1384, 1386, 1388, 1390, 1392, 1394, 1396, 1398, 1400, 1402, 1404, 1406, 1408, 1410, 1412, 1414, 1416, 1418, 1420, 1422, 1424, 1426, 1428, 1430, 1432, 1434, 1436, 1438, 1440, 1442, 1444, 1446, 1448, 1450, 1452, 1454, 1456, 1458, 1460, 1462, 1464, 1466, 1468, 1470, 1472, 1474, 1476, 1478, 1480, 1482, 1484, 1486, 1488, 1490, 1492, 1494, 1496, 1498, 1500, 1502, 1504, 1506, 1508, 1510, 1512, 1514, 1516, 1518, 1520, 1522] (by decide +kernel) (by decide +kernel)
theorem mx_in9 : mx_at 1260 (.instantiable RX9 77) = true ∧ mx_at 157 (.initialized RX9) = true := by decide +kernel
theorem mx_dc9 : ∀ k, k < 77 → (TX9 k).1 = RX9 := by decide +kernel
/-- what is known of a class by its number -/
def mx_C (ci : Nat) (q : vw_C) : Prop := (∀ w ∈ u_ws q.1 q.2.1 q.2.2, w ∈ lw_tbl ∧ mx_ok w = true) ∧ (∀ k, k < q.2.2 → parseFieldDescriptor (q.2.1 k).2.2.1 = some (mx_ty ci k)) ∧ (∀ a, a < q.2.2 → ∀ b, b < q.2.2 → a ≠ b → (q.2.1 a).2.1 ≠ (q.2.1 b).2.1) ∧ (∀ k, k < q.2.2 → (q.2.1 k).1 = q.1) ∧ ∃ i j, mx_at i (.instantiable q.1 q.2.2) = true ∧ mx_at j (.initialized q.1) = true
theorem mx_C_of {ci : Nat} {q : vw_C} (h : mx_cl[ci]? = some q) : mx_C ci q := by
  match ci, h with
  | 0, h => cases h; exact ⟨mx_ws0, tyX0_ok, nmX0, mx_dc0, _, _, mx_in0⟩
  | 1, h => cases h; exact ⟨mx_ws1, tyX1_ok, nmX1, mx_dc1, _, _, mx_in1⟩
  | 2, h => cases h; exact ⟨mx_ws2, tyX2_ok, nmX2, mx_dc2, _, _, mx_in2⟩
  | 3, h => cases h; exact ⟨mx_ws3, tyX3_ok, nmX3, mx_dc3, _, _, mx_in3⟩
  | 4, h => cases h; exact ⟨mx_ws4, tyX4_ok, nmX4, mx_dc4, _, _, mx_in4⟩
  | 5, h => cases h; exact ⟨mx_ws5, tyX5_ok, nmX5, mx_dc5, _, _, mx_in5⟩
  | 6, h => cases h; exact ⟨mx_ws6, tyX6_ok, nmX6, mx_dc6, _, _, mx_in6⟩
  | 7, h => cases h; exact ⟨mx_ws7, tyX7_ok, nmX7, mx_dc7, _, _, mx_in7⟩
  | 8, h => cases h; exact ⟨mx_ws8, tyX8_ok, nmX8, mx_dc8, _, _, mx_in8⟩
  | 9, h => cases h; exact ⟨mx_ws9, tyX9_ok, nmX9, mx_dc9, _, _, mx_in9⟩
  | n + 10, h => simp [mx_cl] at h
theorem mx_ar_int : mx_at 215 (.arrayClass .int) = true := by decide +kernel
theorem mx_ar_long : mx_at 216 (.arrayClass .long) = true := by decide +kernel
theorem mx_ar_boolean : mx_at 1525 (.arrayClass .boolean) = true := by decide +kernel
theorem mx_ar_byte : mx_at 935 (.arrayClass .byte) = true := by decide +kernel
theorem mx_oi : mx_at 175 (.instanceMethod objectInit) = true ∧ mx_at 176 (.code objectInit ⟨#[0xb1]⟩ 1 none) = true := by decide +kernel
end
section
/-! ### fields, rows, new cells -/
def mx_in (x : Int32) (n : Nat) : Bool := decide (0 ≤ x.toInt) && decide (x.toInt < (n : Int))
theorem mx_in_spec {x : Int32} {n : Nat} (h : mx_in x n = true) : vp_in x n := by
  simp only [mx_in, Bool.and_eq_true, decide_eq_true_eq] at h
  exact vp_in_iff.mpr h
def mx_fit (ty : FieldType) (v : Value) : Bool := match v with
  | .ref j => Nat.blt j mx_E && (match ty with | .object _ => true | .array _ => true | _ => false)
  | .double _ => false
  | v => decide (narrow ty v = v) && fits ty v
def mx_kind (t : ArrayType) : Option Nat := match t with
  | .int => some 0 | .long => some 1 | .boolean => some 2 | .byte => some 3 | _ => none
def mx_new (k n : Nat) : mE := if k = 1 then .inr ((1, n), .inr (0, [])) else .inr ((k, n), .inl (0, []))
def mx_defs (ci N : Nat) : List Value := (List.range N).map (fun k => defaultValue (mx_ty ci k))
def mx_nf (ci k : Nat) : Bool := match mx_cl[ci]? with
  | some q => !(q.2.1 k).2.2.2
  | none => false
def mx_al (kb : mK) : Bool := decide (mx_kf kb (.eq, .ref mx_F, .int 0) = some true)
/-- a number of the script: itself, where it is known -/
def mx_sv (kb : mK) (j : Nat) : Value := match kb.find? (fun e => decide (e.1.1 = .eq) && decide (e.1.2.1 = .ref j) && e.2 && (match e.1.2.2 with | .int _ => true | _ => false)) with
  | some e => e.1.2.2
  | none => .ref j
theorem mx_sv_spec {kb : mK} {r : Nat → Value} (hkb : mx_kb kb r) {j : Nat} {x : Int32} (hx : r j = .int x) : mx_v r (mx_sv kb j) = .int x := by
  unfold mx_sv
  split
  · rename_i e he
    have h1 := List.find?_some he
    simp only [Bool.and_eq_true, decide_eq_true_eq] at h1
    obtain ⟨⟨⟨h2, h3⟩, h4⟩, h5⟩ := h1
    have hm := List.mem_of_find?_eq_some he
    split at h5
    · rename_i y hy
      have h6 := hkb e hm x y (by rw [h3]; exact hx) (by rw [hy]; rfl)
      rw [h2, h4] at h6
      simp only [mx_cmp, decide_eq_true_eq] at h6
      rw [hy, h6]; rfl
    · cases h5
  · exact hx
def mx_mem (kb : mK) (sc : Option Nat) (ini : Option Nat) (lk : List (Nat × mL)) (i : Instr) (st : List Value) (w : mW) : Option (List Value × mW) := match i, st with
  | .getfield ix, .ref j :: st => match lk.lookup ix with
    | some (t, ci, k, _) => match w.1[j]? with
      | some (.inl (ci', fs)) => if Nat.ble t 1 && Nat.beq ci ci' then (match fs[k]? with | some v => some (v :: st, w) | none => none) else none
      | _ => none
    | none => none
  | .putfield ix, v :: .ref j :: st => match lk.lookup ix with
    | some (t, ci, k, _) => match w.1[j]? with
      | some (.inl (ci', fs)) => if Nat.ble t 1 && Nat.beq ci ci' && Nat.blt k fs.length && mx_fit (mx_ty ci k) v && (mx_nf ci k || (Nat.beq t 0 && decide (ini = some ci))) then some (st, (w.1.set j (.inl (ci', fs.set k v)), w.2)) else none
      | _ => none
    | none => none
  | .iaload, .int x :: .ref j :: st => if Nat.beq j mx_E then (match sc with | some L => if mx_in x L then some (mx_sv kb (mx_E + 1 + x.toNatClampNeg) :: st, w) else none | none => none) else
    match w.1[j]? with
      | some (.inr ((k, n), .inl a)) => if Nat.beq k 0 && mx_in x n then some (.int (mx_g a x.toNatClampNeg) :: st, w) else none
      | _ => none
  | .laload, .int x :: .ref j :: st => match w.1[j]? with
      | some (.inr ((k, n), .inr a)) => if Nat.beq k 1 && mx_in x n then some (.long (mx_g a x.toNatClampNeg) :: st, w) else none
      | _ => none
  | .baload, .int x :: .ref j :: st => match w.1[j]? with
      | some (.inr ((k, n), .inl a)) => if (Nat.beq k 2 || Nat.beq k 3) && mx_in x n then some (.int (mx_g a x.toNatClampNeg) :: st, w) else none
      | _ => none
  | .iastore, .int v :: .int x :: .ref j :: st => match w.1[j]? with
      | some (.inr ((k, n), .inl a)) => if Nat.beq k 0 && mx_in x n then some (st, (w.1.set j (.inr ((k, n), .inl (mx_s a x.toNatClampNeg v))), w.2)) else none
      | _ => none
  | .lastore, .long v :: .int x :: .ref j :: st => match w.1[j]? with
      | some (.inr ((k, n), .inr a)) => if Nat.beq k 1 && mx_in x n then some (st, (w.1.set j (.inr ((k, n), .inr (mx_s a x.toNatClampNeg v))), w.2)) else none
      | _ => none
  | .bastore, .int v :: .int x :: .ref j :: st => match w.1[j]? with
      | some (.inr ((k, n), .inl a)) => if Nat.beq k 2 && mx_in x n then some (st, (w.1.set j (.inr ((k, n), .inl (mx_s a x.toNatClampNeg (vp_nar .boolean v)))), w.2))
          else if Nat.beq k 3 && mx_in x n then some (st, (w.1.set j (.inr ((k, n), .inl (mx_s a x.toNatClampNeg (vp_nar .byte v)))), w.2)) else none
      | _ => none
  | .arraylength, .ref j :: st => if Nat.beq j mx_E then (match sc with | some L => some (.int (Int32.ofNat L) :: st, w) | none => none) else
    match w.1[j]? with
      | some (.inr ((k, n), _)) => if Nat.blt k 4 then some (.int (Int32.ofNat n) :: st, w) else none
      | _ => none
  | .newarray t, .int n :: st => match mx_kind t with
      | some k => if decide (¬ n < 0) && Nat.ble n.toNatClampNeg 1000000 && Nat.blt w.1.length mx_E && mx_al kb then some (.ref w.1.length :: st, (w.1 ++ [mx_new k n.toNatClampNeg], w.2 + n.toNatClampNeg)) else none
      | none => none
  | .new ix, st => match lk.lookup ix with
      | some (t, ci, _, _) => match mx_cl[ci]? with
        | some q => if Nat.beq t 9 && Nat.blt w.1.length mx_E && mx_al kb then some (.ref w.1.length :: st, (w.1 ++ [.inl (ci, mx_defs ci q.2.2)], w.2 + q.2.2)) else none
        | none => none
      | none => none
  | .ldc ix, st => match lk.lookup ix with
      | some (t, _, _, n) => if Nat.beq t 10 then some (.int (Int32.ofInt n) :: st, w) else none
      | none => none
  | .ldc2_w ix, st => match lk.lookup ix with
      | some (t, _, _, n) => if Nat.beq t 11 then some (.long (Int64.ofInt n) :: st, w) else none
      | none => none
  | .invokespecial ix, .ref j :: st => match lk.lookup ix with
      | some (t, _, _, _) => if Nat.beq t 8 && Nat.ble j mx_E && Nat.ble ((st.map fun v => v.category).sum) 8 then some (st, w) else none
      | none => none
  | _, _ => none
/-- the links of a method's class file are among the tables' words -/
def mx_lkok (nms : Nat → Option MethodName) (own : String) (x : Nat × mL) : Bool := match x with
  | (ix, t, a, b, z) => match t with
    | 0 => match mx_cl[a]? with | some q => Nat.blt b q.2.2 && mx_at z.toNat (.fieldLink own ix q.1 (q.2.1 b).2.1 (q.2.1 b).2.2.1) | none => false
    | 1 => match mx_cl[a]? with | some q => Nat.blt b q.2.2 && mx_at z.toNat (.fieldLinkNest own ix q.1 (q.2.1 b).2.1 (q.2.1 b).2.2.1 "BoundTables") | none => false
    | 8 => mx_at z.toNat (.methodLink own ix objectInit)
    | 9 => match mx_cl[a]? with | some q => mx_at z.toNat (.classLink own ix q.1) | none => false
    | 10 => mx_at b (.constant own ix (Int32.ofInt z))
    | 11 => mx_at b (.constantLong own ix (Int64.ofInt z))
    | 2 => match nms a with | some y => mx_at z.toNat (.methodLink own ix y) | none => false
    | 4 => match nms a with | some y => mx_at z.toNat (.methodLink own ix y) | none => false
    | 6 => match nms a with | some y => mx_at z.toNat (.methodLink own ix y) | none => false
    | 3 => match nms a with | some y => mx_at z.toNat (.methodLinkNest own ix y "BoundTables") | none => false
    | 5 => match nms a with | some y => mx_at z.toNat (.methodLinkNest own ix y "BoundTables") | none => false
    | 7 => match nms a with | some y => mx_at z.toNat (.methodLinkNest own ix y "BoundTables") | none => false
    | _ => false
theorem mx_lkl {lk : List (Nat × mL)} {i : Nat} {v : mL} (h : lk.lookup i = some v) : (i, v) ∈ lk := by
  induction lk with
  | nil => simp at h
  | cons q t ih =>
    obtain ⟨j, u⟩ := q
    by_cases hj : i = j
    · subst hj
      simp [List.lookup] at h
      simp [h]
    · have : (i == j) = false := by simpa using hj
      simp [List.lookup, this] at h
      exact List.mem_cons_of_mem _ (ih h)
/-- cells and slots never grow fewer -/
theorem mx_mem_mono {kb : mK} {sc ini : Option Nat} {lk : List (Nat × mL)} {i : Instr} {st st' : List Value} {w w' : mW} (h : mx_mem kb sc ini lk i st w = some (st', w')) : w.1.length ≤ w'.1.length ∧ w.2 ≤ w'.2 := by
  unfold mx_mem at h
  split at h <;> (repeat' split at h) <;> first | (cases h; done) | (cases h; simp)
theorem mx_al_spec {kb : mK} {r : Nat → Value} {B : Nat} (hkb : mx_kb kb r) (hr : mx_r r B) (h : mx_al kb = true) : r mx_F = .int 0 := by
  simp only [mx_al, decide_eq_true_eq] at h
  obtain ⟨x, hx⟩ := hr.2.2 mx_F (by decide)
  have h1 := mx_kf_spec hkb h (show mx_v r (.ref mx_F) = .int x from hx) (rfl : mx_v r (.int 0) = _)
  simp only [mx_cmp, decide_eq_true_eq] at h1
  rw [hx, h1]
section MX2
variable {p : Program} {l : Launch} {e : Env} {R : Room} {s : State} {m : MethodId} {args : Array Value} {below : List Frame} {meth : Method} {c : Code} {H : Heap} {locs : List Loc} {cells slots : Nat} {Q : State → Prop}
variable {cc : ByteArray} {pc nL : Nat} {ls : Array Slot} {r : Nat → Value} {B : Nat} {D : va_G} {cy : Nat → ClassId} {H0 : Heap}
theorem mx_fit_spec (hr : mx_r r B) {ty : FieldType} {v : Value} (h : mx_fit ty v = true) : narrow ty (mx_v r v) = mx_v r v ∧ fits ty (mx_v r v) = true := by
  unfold mx_fit at h
  split at h
  · rename_i j
    simp only [Bool.and_eq_true] at h
    rw [mx_v_ref, hr.1 j (mx_blt h.1)]
    cases ty <;> first | (cases h.2; done) | exact ⟨rfl, rfl⟩
  · cases h
  · rename_i hv hv2
    simp only [Bool.and_eq_true, decide_eq_true_eq] at h
    have : mx_v r v = v := by cases v <;> first | rfl | exact absurd rfl (hv _) | exact absurd rfl (hv2 _)
    rw [this]
    exact h
/-- a field is written -/
theorem mx_put (hx : p.tables.exec = Jvm.exec) (hb : c.code = cc) {own : String} {q : vw_C} {ci ix k j t : Nat} (hE : mx_Env s) (hown : s.vm.findClass own = some m.cls) (hK : va_K D mx_cl (mx_tys cy) s) (hr : mx_r r B) {w : mW} (hR : mx_R D cy r B w H) (hS : va_S (fun q => B ≤ q) H0 H locs) (hcl : mx_cl[ci]? = some q) (hk : k < q.2.2) {fs : List Value} (hj : w.1[j]? = some (.inl (ci, fs))) (hkl : k < fs.length) {v : Value} (hfit : mx_fit (mx_ty ci k) v = true)
    (hlink : (t = 0 ∧ (Cond.fieldLink own ix q.1 (q.2.1 k).2.1 (q.2.1 k).2.2.1).before args s = true) ∨ (t = 1 ∧ (Cond.fieldLinkNest own ix q.1 (q.2.1 k).2.1 (q.2.1 k).2.2.1 "BoundTables").before args s = true))
    (hfin : (q.2.1 k).2.2.2 = false ∨ (t = 0 ∧ (q.2.1 k).2.2.2 = true ∧ meth.name = "<init>" ∧ own = q.1)) {rest : List Value} (hd : decode cc pc = .ok (.putfield ix, 3))
    (kk : ∀ (H1 : Heap) (locs1 : List Loc), mx_R D cy r B (w.1.set j (.inl (ci, fs.set k v)), w.2) H1 → va_S (fun q => B ≤ q) H0 H1 locs1 → W p l e R s m args below meth c H1 locs1 cells slots Q (F0 m (pc + 3) ls rest)) : W p l e R s m args below meth c H locs cells slots Q (F0 m pc ls (mx_v r v :: .ref (B + j) :: rest)) := by
  obtain ⟨hws, hty, hnm, hdc, -⟩ := mx_C_of hcl
  obtain ⟨C, T, N⟩ := q
  have hts : ∀ w ∈ u_ws C T N, w.before args s = true := fun w hw => hE w (hws w hw).1 (hws w hw).2 args
  have hap := va_apart (own := own) hts (fun w h => h) (mx_ty ci) hty hnm hK hcl
  obtain ⟨h1, h2, hP⟩ := id hR
  obtain ⟨r', h1', cell, q1, q2, q3, q4⟩ := hP j _ hj rfl
  have hr' : r' = (C, T, N) := Option.some.inj (h1'.symm.trans hcl)
  subst hr'
  obtain ⟨hSl, hfc, kC, hkC, hkind⟩ := hK.1 ci _ hcl
  obtain ⟨cf, kf, fi, f, hi, hsl⟩ := hSl k hk
  have hlay := hts _ (u_in_lay hk)
  have hst := (u_facts hfc hkC (u_lays hts (fun w h => h) hk) hi).1
  obtain ⟨hn, hft⟩ := mx_fit_spec hr hfit
  have hsame : s.fieldFound? C (T k).2.1 (T k).2.2.1 = some (cf, kf, fi, f) := by have := hdc k hk; dsimp only at this; rw [← this]; exact hi
  have hkl' : k < (fs.map (mx_v r)).length := by simpa using hkl
  have fin : ∀ (H' : Heap), H'[B + j]? = some (cell.setSlot f.slot (mx_v r v)) → H'.size = H.size → (∀ q, q ≠ B + j → H'[q]? = H[q]?) → W p l e R s m args below meth c H' (locs ++ [⟨B + j, f.slot⟩]) cells slots Q (F0 m (pc + 3) ls rest) := by
    intro H' e1 e2 e3
    rw [hsl] at e1 ⊢
    refine kk H' _ (hR.set hj e2 e3 ?_) (hS.put e2 e3 (Nat.le_add_right B j))
    refine ⟨_, hcl, t_OB.to (V := updV (vp_V (fs.map (mx_v r))) k (mx_v r v)) ⟨_, e1, q2, q3, t_set q4 hap hk _⟩ (fun i _ => ?_)⟩
    rw [vp_updV_set hkl', List.map_set]
  have hlt : f.slot < cell.slots.size := by rw [hsl]; exact k2_hasslot (q4 k hk)
  rcases hfin with hfin | ⟨ht, hfin, hmn, ho⟩
  · unfold u_lay at hlay
    rw [if_neg (by rw [hfin]; decide)] at hlay
    have h6 := u_store hfc hkC hkind hlay hi (hty k hk) hn hft
    rcases hlink with ⟨-, hlink⟩ | ⟨-, hlink⟩
    · exact W.putK hx hb (f := f) ⟨hown, hlink, ⟨_, _, _, hsame⟩, hst⟩ (by rw [q2]; exact h6) q1 q3 hlt rfl rfl hd fin
    · exact va_WputK hx hb (f := f) hown hlink hsame hst (by rw [q2]; exact h6) q1 q3 hlt rfl rfl hd fin
  · rcases hlink with ⟨-, hlink⟩ | ⟨ht1, -⟩
    · unfold u_lay at hlay
      rw [if_pos hfin] at hlay
      have hcf : m.cls = cf := by
        obtain ⟨_, _, c', _, _, _, -, -, hf', -, -, -, hown2, -⟩ := Cond.laysFinal_spec hlay
        have e1 : c' = cf := by have := hi.symm.trans hf'; simp at this; exact this.1.symm
        rw [show (T k).1 = own by rw [ho]; exact hdc k hk] at hown2
        rw [← e1]; exact Option.some.inj (hown.symm.trans hown2)
      have h6 := u_fits hfc hkC hkind (Or.inr hlay) hi (hty k hk) hn hft
      exact W.putFinK hx hb hown hlink hsame hst hcf hmn (by rw [q2]; exact h6) q1 q3 hlt rfl rfl hd fin
    · omega
/-- what a row's place holds once it is written -/
theorem mx_rowI {H1 : Heap} {a cA k n : Nat} {b : mI} {x : Int32} (e : H1[a]? = some ((arrV cA n (fun j => Value.int (mx_g b j))).setSlot k (.int x))) : H1[a]? = some (vp_cell cA (n, .inl (mx_g (mx_s b k x)))) := by
  rw [e, vp_cell_i, arrV_store]
  congr 2
  funext q
  rw [mx_g_s]
  by_cases hq : q = k <;> simp [updV, hq]
theorem mx_rowJ {H1 : Heap} {a cA k n : Nat} {b : mJ} {x : Int64} (e : H1[a]? = some ((arrV cA n (fun j => Value.long (mx_g b j))).setSlot k (.long x))) : H1[a]? = some (vp_cell cA (n, .inr (.inl (mx_g (mx_s b k x))))) := by
  rw [e, vp_cell_l, arrV_store]
  congr 2
  funext q
  rw [mx_g_s]
  by_cases hq : q = k <;> simp [updV, hq]
end MX2
/-- a method: its name; its bytes; (its locals, what it answers, how many it is given, the number of its kind, how it is called: 0 by its object, 1 by its class, 2 as a maker); places of its words; its instructions; its links; whether it is a maker -/
abbrev mM : Type := MethodName × ByteArray × (Nat × Option FieldType × Nat × Nat × Nat) × (Nat × Nat × Nat × Nat) × List (Nat × Instr) × List (Nat × mL) × Option Nat
def mx_isT (i : Instr) : Bool := match i with
  | .tableswitch _ _ _ _ => true
  | _ => false
def mx_rowok (bytes : ByteArray) (x : Nat × Instr) : Bool := match decode bytes x.1 with
  | .ok (i, n) => decide (i = x.2) && (Nat.beq n (mx_len x.2) || mx_isT x.2)
  | _ => false
def mx_mok (nms : Nat → Option MethodName) (M : mM) : Bool :=
  M.2.2.2.2.1.all (mx_rowok M.2.1) && M.2.2.2.2.2.1.all (mx_lkok nms M.1.cls) && mx_at M.2.2.2.1.1 (.code M.1 M.2.1 M.2.2.1.1 M.2.2.1.2.1) && mx_at M.2.2.2.1.2.2.2 (.initialized M.1.cls) &&
  (match M.2.2.1.2.2.2.2 with
    | 1 => mx_at M.2.2.2.1.2.1 (.static M.1)
    | 2 => mx_at M.2.2.2.1.2.1 (.instanceMethod M.1) && decide (M.1.name = "<init>") && decide (M.2.2.1.2.1 = none)
    | _ => mx_at M.2.2.2.1.2.1 (.instanceMethod M.1) && mx_at M.2.2.2.1.2.2.1 (.selects M.1.cls M.1 M.1) && (match mx_cl[M.2.2.1.2.2.2.1]? with | some q => decide (q.1 = M.1.cls) | none => false)) &&
  decide (M.1.cls ≠ "java/lang/invoke/MethodHandle" ∧ M.1.cls ≠ "java/lang/invoke/VarHandle" ∧ (parseMethodDescriptor M.1.desc).map (fun d => d.parameters.length) = some M.2.2.1.2.2.1) && plainName M.1.cls && Nat.ble M.2.2.1.1 21 &&
  (match M.2.2.2.2.2.2 with
    | some ci => decide (M.1.name = "<init>") && (match mx_cl[ci]? with | some q => decide (M.1.cls = q.1) | none => false)
    | none => true)
end
section
/-! ### the methods, by their numbers -/
def mt_nm : List MethodName := [yX0_init, yX0_startOver, yX0_tellOwnBounds, yX0_nodeOf, yX0_nodeAbove, yX0_below, yX0_boundsBelow, yX0_classBelow, yX0_argBelow, yX0_captureArgs, yX0_bind, yX0_addBound, yX0_raise, yX0_count, yX0_floorOf, yX0_boundOf, yX0_boundOfNew, yX1_init, yX1_startOver, yX1_startArgs, yX1_addArg, yX1_addOwn, yX1_addAny, yX1_inherit, yX1_sizeWithArgs, yX1_writeArg, yX1_isSame, yX1_makeRoom, yX1_write, yX2_init, yX2_writeType, yX2_openType, yX2_writeHead, yX2_writeName, yX2_writeNumber, yX2_write, yX3_init, yX3_start, yX3_readTable, yX3_readQuestion, yX3_readPlace, yX3_opening, yX3_declaration, yX3_parameterNames, yX3_bounds, yX3_isBehindBound, yX3_boundName, yX3_supers, yX3_type, yX3_args, yX3_wild, yX3_behindType, yX3_tell, yX3_fail, yX4_init, yX4_startOver, yX4_addClass, yX4_addParameter, yX4_addBound, yX4_addSuper, yX4_findClass, yX4_findParameter, yX4_headOf, yX4_arity, yX4_endOfPart, yX4_overLength, yX4_overStart, yX4_countOver, yX4_closeClass, yX4_inheritAll, yX5_init, yX5_append, yX5_cut, yX5_nameSize, yX5_nameOf, yX5_kindOf, yX5_isLetter, yX5_isNameByte, yX5_opensArgs, yX5_step, yX6_init, yX6_startOver, yX6_head, yX6_part, yX6_partsOf, yX6_leaf, yX6_put, yX6_make, yX6_hasParts, yX7_init, yX7_measure, yX7_addWays, yX7_closeReach, yX7_joinReach, yX7_markRounds, yX7_markRound, yX7_leads, yX8_init, yX8_feed, yX8_read, yX8_fault, yX8_cls, yX8_isAbove, yX8_parameter, yX8_way, yX8_ask, yX8_told, yX8_above, yX8_variable, yX8_written, yX8_clear, yX8_at, yX8_nameAt, yX8_set, yX8_isClass, yX8_isParameter, yX8_isWild, yX9_init, yX9_anew, yX9_forgetAsked, yX9_clearHeads, yX9_slotOf, yX9_isLike, yX9_make, yX9_chainAgain, yX9_substitute, yX9_substituted, yX9_isLetter, yX9_isPart, yX9_isSign, yX9_nameAt, yX9_pass, yX9_isBefore, yX9_fail, yX9_want, yX9_name, yX9_findClass, yX9_findParam, yX9_mayStandBehind, yX9_openType, yX9_addArg, yX9_closed, yX9_readType, yX9_readHead, yX9_readBounds, yX9_readSupers, yX9_findAbove, yX9_readDecl, yX9_begin, yX9_read, yX9_down, yX9_commit, yX9_addWays, yX9_waysOf, yX9_findWays, yX9_isOnGrowing, yX9_readIn, yX9_readQuestion, yX9_readPlace, yX9_readTwice, yX9_isVariable, yX9_boundsOf, yX9_boundOf, yX9_captured, yX9_bind, yX9_aboveOf, yX9_ask2, yX9_pairs, yX9_opened, yX9_behindFloor, yX9_resumed, yX9_questions, yX9_ask, yX9_above, yX9_sign, yX9_signs, yX9_head, yX9_write, yX9_variable, yX9_written, yX9_feed, yX9_fault, yX9_isClass, yX9_cls, yX9_isOver, yX9_isAbove, yX9_isParam, yX9_parameter, yX9_way, yX9_told, yX9_clear, yX9_thrown, yJ7_fill_53178]
def mt_X0_init : mM := (yX0_init, cX0_init, (2, none, 1, 0, 2), (474, 473, 0, 155),
  [(0, .aload_n 0), (1, .invokespecial 3), (4, .aload_n 0), (5, .sipush 300), (8, .newarray .int), (10, .putfield 9), (13, .aload_n 0), (14, .sipush 900), (17, .newarray .int), (19, .putfield 15), (22, .aload_n 0), (23, .sipush 300), (26, .newarray .int), (28, .putfield 18), (31, .aload_n 0), (32, .iconst 4), (33, .newarray .int), (35, .putfield 21), (38, .aload_n 0), (39, .bipush 8), (41, .newarray .int), (43, .putfield 24), (46, .aload_n 0), (47, .sipush 164), (50, .newarray .int), (52, .putfield 27), (55, .aload_n 0), (56, .aload_n 1), (57, .putfield 30), (60, .aload_n 0), (61, .new 34), (64, .dup), (65, .aload_n 1), (66, .invokespecial 36), (69, .putfield 39), (72, .return_)],
  [(3, 8, 0, 0, 475), (9, 0, 0, 1, 512), (15, 0, 0, 2, 513), (18, 0, 0, 3, 514), (21, 0, 0, 4, 516), (24, 0, 0, 5, 517), (27, 0, 0, 6, 518), (30, 0, 0, 7, 519), (34, 9, 6, 0, 476), (36, 7, 80, 1, 478), (39, 0, 0, 0, 510)], some 0)
set_option maxRecDepth 100000 in
theorem mk_X0_init : mx_mok (fun a => mt_nm[a]?) mt_X0_init = true := sorry
def mt_X0_startOver : mM := (yX0_startOver, cX0_startOver, (5, none, 2, 0, 0), (566, 565, 6, 155),
  [(0, .aload_n 0), (1, .aload_n 1), (2, .putfield 30), (5, .aload_n 0), (6, .iconst 0), (7, .putfield 43), (10, .aload_n 0), (11, .iconst 0), (12, .putfield 47), (15, .aload_n 0), (16, .iconst 0), (17, .putfield 50), (20, .aload_n 0), (21, .iconst 0), (22, .putfield 53), (25, .aload_n 0), (26, .getfield 39), (29, .aload_n 1), (30, .invokevirtual 56), (33, .aload_n 0), (34, .aload_n 0), (35, .getfield 39), (38, .iconst 0), (39, .invokevirtual 59), (42, .putfield 63), (45, .aload_n 0), (46, .iload_n 2), (47, .ifCond .ge 7), (50, .iconst 0), (51, .goto 11), (54, .aload_n 1), (55, .getfield 66), (58, .iload_n 2), (59, .invokestatic 71), (62, .putfield 75), (65, .iload_n 2), (66, .ifCond .ge 7), (69, .iconst 0), (70, .goto 8), (73, .aload_n 1), (74, .iload_n 2), (75, .invokevirtual 78), (78, .istore_n 3), (79, .iconst 0), (80, .istore 4), (82, .iload 4), (84, .iload_n 3), (85, .if_icmp .ge 35), (88, .aload_n 0), (89, .getfield 21), (92, .iload 4), (94, .aload_n 0), (95, .getfield 39), (98, .bipush 32), (100, .aload_n 0), (101, .getfield 75), (104, .iadd), (105, .iload 4), (107, .iadd), (108, .invokevirtual 59), (111, .invokestatic 81), (114, .iinc 4 1), (117, .goto (-35)), (120, .iconst 0), (121, .istore 4), (123, .iload 4), (125, .iload_n 3), (126, .iconst 2), (127, .imul), (128, .if_icmp .ge 19), (131, .aload_n 0), (132, .getfield 24), (135, .iload 4), (137, .iconst (-1)), (138, .invokestatic 81), (141, .iinc 4 1), (144, .goto (-21)), (147, .iconst 0), (148, .istore 4), (150, .iload 4), (152, .iload_n 3), (153, .if_icmp .ge 15), (156, .aload_n 0), (157, .iload 4), (159, .invokevirtual 85), (162, .iinc 4 1), (165, .goto (-15)), (168, .return_)],
  [(21, 0, 0, 4, 516), (24, 0, 0, 5, 517), (30, 0, 0, 7, 519), (39, 0, 0, 0, 510), (43, 0, 0, 11, 524), (47, 0, 0, 12, 526), (50, 0, 0, 13, 528), (53, 0, 0, 14, 530), (56, 3, 81, 1, 567), (59, 3, 85, 1, 572), (63, 0, 0, 9, 521), (66, 1, 4, 1, 356), (71, 5, 111, 2, 592), (75, 0, 0, 8, 520), (78, 3, 63, 1, 593), (81, 5, 113, 3, 594), (85, 2, 2, 1, 595)], none)
set_option maxRecDepth 100000 in
theorem mk_X0_startOver : mx_mok (fun a => mt_nm[a]?) mt_X0_startOver = true := sorry
def mt_X0_tellOwnBounds : mM := (yX0_tellOwnBounds, cX0_tellOwnBounds, (5, none, 1, 0, 0), (598, 597, 12, 155),
  [(0, .aload_n 0), (1, .getfield 75), (4, .iload_n 1), (5, .iadd), (6, .istore_n 2), (7, .aload_n 0), (8, .getfield 24), (11, .iload_n 1), (12, .iconst 2), (13, .imul), (14, .aload_n 0), (15, .getfield 63), (18, .invokestatic 81), (21, .iconst 0), (22, .istore_n 3), (23, .iload_n 3), (24, .aload_n 0), (25, .getfield 30), (28, .getfield 89), (31, .iload_n 2), (32, .invokestatic 71), (35, .if_icmp .ge 63), (38, .iload_n 2), (39, .iconst 2), (40, .imul), (41, .iload_n 3), (42, .iadd), (43, .istore 4), (45, .aload_n 0), (46, .getfield 24), (49, .iload_n 1), (50, .iconst 2), (51, .imul), (52, .iload_n 3), (53, .iadd), (54, .aload_n 0), (55, .aload_n 0), (56, .getfield 30), (59, .getfield 92), (62, .aload_n 0), (63, .getfield 30), (66, .getfield 95), (69, .iload 4), (71, .invokestatic 71), (74, .aload_n 0), (75, .getfield 30), (78, .getfield 98), (81, .iload 4), (83, .invokestatic 71), (86, .invokevirtual 101), (89, .invokestatic 81), (92, .iinc 3 1), (95, .goto (-72)), (98, .return_)],
  [(24, 0, 0, 5, 517), (30, 0, 0, 7, 519), (63, 0, 0, 9, 521), (71, 5, 111, 2, 592), (75, 0, 0, 8, 520), (81, 5, 113, 3, 594), (89, 1, 4, 7, 369), (92, 1, 4, 10, 379), (95, 1, 4, 8, 373), (98, 1, 4, 9, 375), (101, 2, 3, 3, 599)], none)
set_option maxRecDepth 100000 in
theorem mk_X0_tellOwnBounds : mx_mok (fun a => mt_nm[a]?) mt_X0_tellOwnBounds = true := sorry
def mt_X0_nodeOf : mM := (yX0_nodeOf, cX0_nodeOf, (4, (some .int), 3, 0, 0), (602, 601, 13, 155),
  [(0, .aload_n 0), (1, .getfield 39), (4, .aload_n 1), (5, .iload_n 2), (6, .iload_n 3), (7, .aload_n 0), (8, .getfield 21), (11, .iconst 0), (12, .aload_n 0), (13, .getfield 75), (16, .invokevirtual 105), (19, .ireturn)],
  [(21, 0, 0, 4, 516), (39, 0, 0, 0, 510), (75, 0, 0, 8, 520), (105, 3, 86, 6, 603)], none)
set_option maxRecDepth 100000 in
theorem mk_X0_nodeOf : mx_mok (fun a => mt_nm[a]?) mt_X0_nodeOf = true := sorry
def mt_X0_nodeAbove : mM := (yX0_nodeAbove, cX0_nodeAbove, (4, (some .int), 2, 0, 0), (956, 955, 59, 155),
  [(0, .aload_n 0), (1, .getfield 39), (4, .iload_n 1), (5, .invokevirtual 109), (8, .istore_n 3), (9, .iload_n 2), (10, .ifCond .ne 8), (13, .aload_n 0), (14, .getfield 63), (17, .ireturn), (18, .iload_n 3), (19, .iload_n 2), (20, .if_icmp .ne 5), (23, .iload_n 1), (24, .ireturn), (25, .iload_n 3), (26, .invokestatic 112), (29, .ifCond .eq 15), (32, .aload_n 0), (33, .getfield 30), (36, .iload_n 3), (37, .iload_n 2), (38, .invokevirtual 116), (41, .ifCond .gt 5), (44, .iconst (-1)), (45, .ireturn), (46, .aload_n 0), (47, .iload_n 1), (48, .iconst 0), (49, .invokevirtual 120), (52, .ifCond .eq 13), (55, .aload_n 0), (56, .iload_n 3), (57, .iload_n 2), (58, .iconst 0), (59, .invokevirtual 124), (62, .goto 5), (65, .bipush (-4)), (67, .ireturn)],
  [(30, 0, 0, 7, 519), (39, 0, 0, 0, 510), (63, 0, 0, 9, 521), (109, 3, 82, 1, 957), (112, 5, 114, 1, 961), (116, 3, 65, 2, 962), (120, 2, 9, 2, 963), (124, 2, 12, 3, 991)], none)
set_option maxRecDepth 100000 in
theorem mk_X0_nodeAbove : mx_mok (fun a => mt_nm[a]?) mt_X0_nodeAbove = true := sorry
def mt_X0_below : mM := (yX0_below, cX0_below, (6, (some .int), 3, 0, 0), (1206, 1205, 79, 155),
  [(0, .aload_n 0), (1, .getfield 43), (4, .aload_n 0), (5, .getfield 128), (8, .if_icmp .lt 6), (11, .bipush (-3)), (13, .ireturn), (14, .iload_n 3), (15, .bipush 40), (17, .if_icmp .le 6), (20, .bipush (-2)), (22, .ireturn), (23, .aload_n 0), (24, .dup), (25, .getfield 43), (28, .iconst 1), (29, .iadd), (30, .putfield 43), (33, .aload_n 0), (34, .aload_n 0), (35, .getfield 47), (38, .iload_n 3), (39, .invokestatic 131), (42, .putfield 47), (45, .iload_n 1), (46, .iload_n 2), (47, .if_icmp .eq 11), (50, .iload_n 2), (51, .aload_n 0), (52, .getfield 63), (55, .if_icmp .ne 5), (58, .iconst 1), (59, .ireturn), (60, .aload_n 0), (61, .iload_n 2), (62, .invokevirtual 136), (65, .istore 4), (67, .iload 4), (69, .ifCond .lt 23), (72, .aload_n 0), (73, .iload_n 1), (74, .iload 4), (76, .iload_n 3), (77, .iconst 1), (78, .iadd), (79, .invokevirtual 139), (82, .istore 5), (84, .iload 5), (86, .ifCond .eq 6), (89, .iload 5), (91, .ireturn), (92, .aload_n 0), (93, .getfield 39), (96, .iload_n 1), (97, .invokevirtual 109), (100, .invokestatic 112), (103, .ifCond .ne 11), (106, .aload_n 0), (107, .iload_n 1), (108, .iload_n 2), (109, .iload_n 3), (110, .invokevirtual 142), (113, .ireturn), (114, .aload_n 0), (115, .getfield 39), (118, .iload_n 2), (119, .invokevirtual 109), (122, .invokestatic 112), (125, .ifCond .eq 13), (128, .aload_n 0), (129, .iload_n 1), (130, .iload_n 2), (131, .iload_n 3), (132, .invokevirtual 145), (135, .goto 4), (138, .iconst 0), (139, .ireturn)],
  [(39, 0, 0, 0, 510), (43, 0, 0, 11, 524), (47, 0, 0, 12, 526), (63, 0, 0, 9, 521), (109, 3, 82, 1, 957), (112, 5, 114, 1, 961), (128, 0, 0, 10, 522), (136, 2, 14, 1, 1208), (139, 2, 5, 3, 1212), (142, 2, 6, 3, 1213), (145, 2, 7, 3, 1226)], none)
set_option maxRecDepth 100000 in
theorem mk_X0_below : mx_mok (fun a => mt_nm[a]?) mt_X0_below = true := sorry
def mt_X0_boundsBelow : mM := (yX0_boundsBelow, cX0_boundsBelow, (7, (some .int), 3, 0, 0), (1216, 1215, 81, 155),
  [(0, .iconst 0), (1, .istore 4), (3, .iload 4), (5, .iconst 3), (6, .if_icmp .ge 45), (9, .aload_n 0), (10, .iload_n 1), (11, .iload 4), (13, .invokevirtual 148), (16, .istore 5), (18, .iload 5), (20, .ifCond .ge 5), (23, .iconst 0), (24, .ireturn), (25, .aload_n 0), (26, .iload 5), (28, .iload_n 2), (29, .iload_n 3), (30, .iconst 1), (31, .iadd), (32, .invokevirtual 139), (35, .istore 6), (37, .iload 6), (39, .ifCond .eq 6), (42, .iload 6), (44, .ireturn), (45, .iinc 4 1), (48, .goto (-45)), (51, .iconst 0), (52, .ireturn)],
  [(139, 2, 5, 3, 1212), (148, 2, 15, 2, 1217)], none)
set_option maxRecDepth 100000 in
theorem mk_X0_boundsBelow : mx_mok (fun a => mt_nm[a]?) mt_X0_boundsBelow = true := sorry
def mt_X0_classBelow : mM := (yX0_classBelow, cX0_classBelow, (9, (some .int), 3, 0, 0), (1229, 1228, 84, 155),
  [(0, .iload_n 3), (1, .iconst 4), (2, .imul), (3, .istore 4), (5, .aload_n 0), (6, .iload_n 1), (7, .iload 4), (9, .invokevirtual 120), (12, .ifCond .ne 6), (15, .bipush (-4)), (17, .ireturn), (18, .aload_n 0), (19, .getfield 39), (22, .iload_n 1), (23, .invokevirtual 109), (26, .istore 5), (28, .aload_n 0), (29, .getfield 39), (32, .iload_n 2), (33, .invokevirtual 109), (36, .istore 6), (38, .aload_n 0), (39, .getfield 30), (42, .iload 5), (44, .iload 6), (46, .invokevirtual 116), (49, .ifCond .gt 5), (52, .iconst 0), (53, .ireturn), (54, .iload 5), (56, .iload 6), (58, .if_icmp .eq 69), (61, .aload_n 0), (62, .iload 5), (64, .iload 6), (66, .iload 4), (68, .invokevirtual 124), (71, .istore 7), (73, .iload 7), (75, .ifCond .ge 6), (78, .iload 7), (80, .ireturn), (81, .iconst 0), (82, .istore 8), (84, .iload 8), (86, .aload_n 0), (87, .getfield 39), (90, .iload 7), (92, .invokevirtual 151), (95, .if_icmp .ge 32), (98, .aload_n 0), (99, .getfield 27), (102, .iload 4), (104, .iload 8), (106, .iadd), (107, .aload_n 0), (108, .getfield 39), (111, .iload 7), (113, .iload 8), (115, .invokevirtual 154), (118, .invokestatic 81), (121, .iinc 8 1), (124, .goto (-40)), (127, .iconst 0), (128, .istore 7), (130, .iload 7), (132, .aload_n 0), (133, .getfield 39), (136, .iload_n 2), (137, .invokevirtual 151), (140, .if_icmp .ge 47), (143, .aload_n 0), (144, .aload_n 0), (145, .getfield 27), (148, .iload 4), (150, .iload 7), (152, .iadd), (153, .invokestatic 71), (156, .aload_n 0), (157, .getfield 39), (160, .iload_n 2), (161, .iload 7), (163, .invokevirtual 154), (166, .iload_n 3), (167, .invokevirtual 157), (170, .istore 8), (172, .iload 8), (174, .iconst 1), (175, .if_icmp .eq 6), (178, .iload 8), (180, .ireturn), (181, .iinc 7 1), (184, .goto (-54)), (187, .iconst 1), (188, .ireturn)],
  [(27, 0, 0, 6, 518), (30, 0, 0, 7, 519), (39, 0, 0, 0, 510), (71, 5, 111, 2, 592), (81, 5, 113, 3, 594), (109, 3, 82, 1, 957), (116, 3, 65, 2, 962), (120, 2, 9, 2, 963), (124, 2, 12, 3, 991), (151, 3, 84, 1, 967), (154, 3, 83, 2, 972), (157, 2, 8, 3, 1230)], none)
set_option maxRecDepth 100000 in
theorem mk_X0_classBelow : mx_mok (fun a => mt_nm[a]?) mt_X0_classBelow = true := sorry
def mt_X0_argBelow : mM := (yX0_argBelow, cX0_argBelow, (4, (some .int), 3, 0, 0), (1233, 1232, 85, 155),
  [(0, .aload_n 0), (1, .getfield 39), (4, .iload_n 2), (5, .invokevirtual 109), (8, .tableswitch 66 200 202 #[28, 30, 48]), (36, .iconst 1), (37, .ireturn), (38, .aload_n 0), (39, .iload_n 1), (40, .aload_n 0), (41, .getfield 39), (44, .iload_n 2), (45, .iconst 0), (46, .invokevirtual 154), (49, .iload_n 3), (50, .iconst 1), (51, .iadd), (52, .invokevirtual 139), (55, .ireturn), (56, .aload_n 0), (57, .aload_n 0), (58, .getfield 39), (61, .iload_n 2), (62, .iconst 0), (63, .invokevirtual 154), (66, .iload_n 1), (67, .iload_n 3), (68, .iconst 1), (69, .iadd), (70, .invokevirtual 139), (73, .ireturn), (74, .iload_n 1), (75, .iload_n 2), (76, .if_icmp .ne 7), (79, .iconst 1), (80, .goto 4), (83, .iconst 0), (84, .ireturn)],
  [(39, 0, 0, 0, 510), (109, 3, 82, 1, 957), (139, 2, 5, 3, 1212), (154, 3, 83, 2, 972)], none)
set_option maxRecDepth 100000 in
theorem mk_X0_argBelow : mx_mok (fun a => mt_nm[a]?) mt_X0_argBelow = true := sorry
def mt_X0_captureArgs : mM := (yX0_captureArgs, cX0_captureArgs, (6, (some .boolean), 2, 0, 0), (966, 965, 61, 155),
  [(0, .aload_n 0), (1, .getfield 39), (4, .iload_n 1), (5, .invokevirtual 151), (8, .istore_n 3), (9, .iconst 0), (10, .istore 4), (12, .iload 4), (14, .iload_n 3), (15, .if_icmp .ge 140), (18, .aload_n 0), (19, .getfield 39), (22, .iload_n 1), (23, .iload 4), (25, .invokevirtual 154), (28, .istore 5), (30, .aload_n 0), (31, .getfield 39), (34, .iload 5), (36, .invokevirtual 109), (39, .invokestatic 160), (42, .ifCond .eq 94), (45, .aload_n 0), (46, .getfield 50), (49, .sipush 300), (52, .if_icmp .lt 5), (55, .iconst 0), (56, .ireturn), (57, .aload_n 0), (58, .getfield 9), (61, .aload_n 0), (62, .getfield 50), (65, .iconst 0), (66, .invokestatic 81), (69, .aload_n 0), (70, .getfield 18), (73, .aload_n 0), (74, .getfield 50), (77, .aload_n 0), (78, .getfield 39), (81, .iload 5), (83, .invokevirtual 109), (86, .sipush 202), (89, .if_icmp .ne 16), (92, .aload_n 0), (93, .getfield 39), (96, .iload 5), (98, .iconst 0), (99, .invokevirtual 154), (102, .goto 4), (105, .iconst (-1)), (106, .invokestatic 81), (109, .aload_n 0), (110, .getfield 39), (113, .sipush 300), (116, .aload_n 0), (117, .getfield 50), (120, .iadd), (121, .invokevirtual 59), (124, .istore 5), (126, .aload_n 0), (127, .dup), (128, .getfield 50), (131, .iconst 1), (132, .iadd), (133, .putfield 50), (136, .aload_n 0), (137, .getfield 27), (140, .iload_n 2), (141, .iload 4), (143, .iadd), (144, .iload 5), (146, .invokestatic 81), (149, .iinc 4 1), (152, .goto (-140)), (155, .iconst 0), (156, .istore 4), (158, .iload 4), (160, .iload_n 3), (161, .if_icmp .ge 45), (164, .aload_n 0), (165, .getfield 39), (168, .aload_n 0), (169, .getfield 39), (172, .iload_n 1), (173, .iload 4), (175, .invokevirtual 154), (178, .invokevirtual 109), (181, .invokestatic 160), (184, .ifCond .eq 16), (187, .aload_n 0), (188, .iload_n 1), (189, .iload 4), (191, .iload_n 2), (192, .invokevirtual 163), (195, .ifCond .ne 5), (198, .iconst 0), (199, .ireturn), (200, .iinc 4 1), (203, .goto (-45)), (206, .iconst 1), (207, .ireturn)],
  [(9, 0, 0, 1, 512), (18, 0, 0, 3, 514), (27, 0, 0, 6, 518), (39, 0, 0, 0, 510), (50, 0, 0, 13, 528), (59, 3, 85, 1, 572), (81, 5, 113, 3, 594), (109, 3, 82, 1, 957), (151, 3, 84, 1, 967), (154, 3, 83, 2, 972), (160, 5, 116, 1, 976), (163, 2, 10, 3, 979)], none)
set_option maxRecDepth 100000 in
theorem mk_X0_captureArgs : mx_mok (fun a => mt_nm[a]?) mt_X0_captureArgs = true := sorry
def mt_X0_bind : mM := (yX0_bind, cX0_bind, (11, (some .boolean), 3, 0, 0), (982, 981, 64, 155),
  [(0, .aload_n 0), (1, .getfield 39), (4, .aload_n 0), (5, .getfield 27), (8, .iload_n 3), (9, .iload_n 2), (10, .iadd), (11, .invokestatic 71), (14, .invokevirtual 109), (17, .sipush 300), (20, .isub), (21, .istore 4), (23, .aload_n 0), (24, .getfield 39), (27, .iload_n 1), (28, .iload_n 2), (29, .invokevirtual 154), (32, .istore 5), (34, .aload_n 0), (35, .getfield 39), (38, .iload 5), (40, .invokevirtual 109), (43, .sipush 201), (46, .if_icmp .ne 19), (49, .aload_n 0), (50, .iload 4), (52, .aload_n 0), (53, .getfield 39), (56, .iload 5), (58, .iconst 0), (59, .invokevirtual 154), (62, .invokevirtual 167), (65, .aload_n 0), (66, .getfield 30), (69, .getfield 66), (72, .aload_n 0), (73, .getfield 39), (76, .iload_n 1), (77, .invokevirtual 109), (80, .invokestatic 71), (83, .istore 6), (85, .iload 6), (87, .iload_n 2), (88, .iadd), (89, .istore 7), (91, .iconst 0), (92, .istore 8), (94, .iload 8), (96, .aload_n 0), (97, .getfield 30), (100, .getfield 89), (103, .iload 7), (105, .invokestatic 71), (108, .if_icmp .ge 84), (111, .iload 7), (113, .iconst 2), (114, .imul), (115, .iload 8), (117, .iadd), (118, .istore 9), (120, .aload_n 0), (121, .getfield 30), (124, .getfield 98), (127, .iload 9), (129, .invokestatic 71), (132, .istore 10), (134, .aload_n 0), (135, .iload 10), (137, .invokevirtual 171), (140, .ifCond .ne 5), (143, .iconst 0), (144, .ireturn), (145, .aload_n 0), (146, .iload 4), (148, .aload_n 0), (149, .getfield 39), (152, .aload_n 0), (153, .getfield 30), (156, .getfield 92), (159, .aload_n 0), (160, .getfield 30), (163, .getfield 95), (166, .iload 9), (168, .invokestatic 71), (171, .iload 10), (173, .aload_n 0), (174, .getfield 27), (177, .iload_n 3), (178, .iload 6), (180, .invokevirtual 105), (183, .invokevirtual 167), (186, .iinc 8 1), (189, .goto (-95)), (192, .aload_n 0), (193, .getfield 9), (196, .iload 4), (198, .invokestatic 71), (201, .ifCond .ne 13), (204, .aload_n 0), (205, .iload 4), (207, .aload_n 0), (208, .getfield 63), (211, .invokevirtual 167), (214, .iconst 1), (215, .ireturn)],
  [(9, 0, 0, 1, 512), (27, 0, 0, 6, 518), (30, 0, 0, 7, 519), (39, 0, 0, 0, 510), (63, 0, 0, 9, 521), (66, 1, 4, 1, 356), (71, 5, 111, 2, 592), (89, 1, 4, 7, 369), (92, 1, 4, 10, 379), (95, 1, 4, 8, 373), (98, 1, 4, 9, 375), (105, 3, 86, 6, 603), (109, 3, 82, 1, 957), (154, 3, 83, 2, 972), (167, 2, 11, 2, 983), (171, 2, 13, 1, 987)], none)
set_option maxRecDepth 100000 in
theorem mk_X0_bind : mx_mok (fun a => mt_nm[a]?) mt_X0_bind = true := sorry
def mt_X0_addBound : mM := (yX0_addBound, cX0_addBound, (4, none, 2, 0, 0), (986, 985, 65, 155),
  [(0, .aload_n 0), (1, .getfield 9), (4, .iload_n 1), (5, .invokestatic 71), (8, .istore_n 3), (9, .iload_n 3), (10, .ifCond .lt 32), (13, .iload_n 3), (14, .iconst 3), (15, .if_icmp .ge 27), (18, .aload_n 0), (19, .getfield 15), (22, .iload_n 1), (23, .iconst 3), (24, .imul), (25, .iload_n 3), (26, .iadd), (27, .iload_n 2), (28, .invokestatic 81), (31, .aload_n 0), (32, .getfield 9), (35, .iload_n 1), (36, .iload_n 3), (37, .iconst 1), (38, .iadd), (39, .invokestatic 81), (42, .return_)],
  [(9, 0, 0, 1, 512), (15, 0, 0, 2, 513), (71, 5, 111, 2, 592), (81, 5, 113, 3, 594)], none)
set_option maxRecDepth 100000 in
theorem mk_X0_addBound : mx_mok (fun a => mt_nm[a]?) mt_X0_addBound = true := sorry
def mt_X0_raise : mM := (yX0_raise, cX0_raise, (5, (some .int), 3, 0, 0), (994, 993, 67, 155),
  [(0, .aload_n 0), (1, .getfield 30), (4, .iload_n 1), (5, .iload_n 2), (6, .invokevirtual 116), (9, .istore 4), (11, .aload_n 0), (12, .iload 4), (14, .invokevirtual 171), (17, .ifCond .ne 6), (20, .bipush (-4)), (22, .ireturn), (23, .aload_n 0), (24, .getfield 39), (27, .aload_n 0), (28, .getfield 30), (31, .getfield 174), (34, .getfield 178), (37, .aload_n 0), (38, .getfield 30), (41, .iload_n 1), (42, .iload_n 2), (43, .invokevirtual 181), (46, .iload 4), (48, .aload_n 0), (49, .getfield 27), (52, .iload_n 3), (53, .aload_n 0), (54, .getfield 30), (57, .getfield 66), (60, .iload_n 1), (61, .invokestatic 71), (64, .invokevirtual 105), (67, .ireturn)],
  [(27, 0, 0, 6, 518), (30, 0, 0, 7, 519), (39, 0, 0, 0, 510), (66, 1, 4, 1, 356), (71, 5, 111, 2, 592), (105, 3, 86, 6, 603), (116, 3, 65, 2, 962), (171, 2, 13, 1, 987), (174, 1, 4, 11, 381), (178, 1, 1, 5, 283), (181, 3, 66, 2, 995)], none)
set_option maxRecDepth 100000 in
theorem mk_X0_raise : mx_mok (fun a => mt_nm[a]?) mt_X0_raise = true := sorry
def mt_X0_count : mM := (yX0_count, cX0_count, (2, (some .boolean), 1, 0, 0), (990, 989, 66, 155),
  [(0, .aload_n 0), (1, .getfield 53), (4, .iload_n 1), (5, .iadd), (6, .sipush 6000), (9, .if_icmp .le 5), (12, .iconst 0), (13, .ireturn), (14, .aload_n 0), (15, .dup), (16, .getfield 53), (19, .iload_n 1), (20, .iadd), (21, .putfield 53), (24, .iconst 1), (25, .ireturn)],
  [(53, 0, 0, 14, 530)], none)
set_option maxRecDepth 100000 in
theorem mk_X0_count : mx_mok (fun a => mt_nm[a]?) mt_X0_count = true := sorry
def mt_X0_floorOf : mM := (yX0_floorOf, cX0_floorOf, (3, (some .int), 1, 0, 0), (1211, 1210, 80, 155),
  [(0, .aload_n 0), (1, .getfield 39), (4, .iload_n 1), (5, .invokevirtual 109), (8, .sipush 300), (11, .isub), (12, .istore_n 2), (13, .iload_n 2), (14, .ifCond .lt 22), (17, .iload_n 2), (18, .aload_n 0), (19, .getfield 50), (22, .if_icmp .ge 14), (25, .aload_n 0), (26, .getfield 18), (29, .iload_n 2), (30, .invokestatic 71), (33, .goto 4), (36, .iconst (-1)), (37, .ireturn)],
  [(18, 0, 0, 3, 514), (39, 0, 0, 0, 510), (50, 0, 0, 13, 528), (71, 5, 111, 2, 592), (109, 3, 82, 1, 957)], none)
set_option maxRecDepth 100000 in
theorem mk_X0_floorOf : mx_mok (fun a => mt_nm[a]?) mt_X0_floorOf = true := sorry
def mt_X0_boundOf : mM := (yX0_boundOf, cX0_boundOf, (5, (some .int), 2, 0, 0), (1220, 1219, 82, 155),
  [(0, .aload_n 0), (1, .getfield 39), (4, .iload_n 1), (5, .invokevirtual 109), (8, .istore_n 3), (9, .iload_n 3), (10, .invokestatic 184), (13, .ifCond .ne 14), (16, .aload_n 0), (17, .iload_n 3), (18, .sipush 300), (21, .isub), (22, .iload_n 2), (23, .invokevirtual 187), (26, .ireturn), (27, .iload_n 3), (28, .bipush 32), (30, .isub), (31, .aload_n 0), (32, .getfield 75), (35, .isub), (36, .istore 4), (38, .iload_n 2), (39, .iconst 2), (40, .if_icmp .ge 19), (43, .aload_n 0), (44, .getfield 24), (47, .iload 4), (49, .iconst 2), (50, .imul), (51, .iload_n 2), (52, .iadd), (53, .invokestatic 71), (56, .goto 4), (59, .iconst (-1)), (60, .ireturn)],
  [(24, 0, 0, 5, 517), (39, 0, 0, 0, 510), (71, 5, 111, 2, 592), (75, 0, 0, 8, 520), (109, 3, 82, 1, 957), (184, 5, 115, 1, 1221), (187, 2, 16, 2, 1222)], none)
set_option maxRecDepth 100000 in
theorem mk_X0_boundOf : mx_mok (fun a => mt_nm[a]?) mt_X0_boundOf = true := sorry
def mt_X0_boundOfNew : mM := (yX0_boundOfNew, cX0_boundOfNew, (3, (some .int), 2, 0, 0), (1225, 1224, 83, 155),
  [(0, .iload_n 2), (1, .ifCond .lt 30), (4, .iload_n 2), (5, .aload_n 0), (6, .getfield 9), (9, .iload_n 1), (10, .invokestatic 71), (13, .if_icmp .ge 18), (16, .aload_n 0), (17, .getfield 15), (20, .iload_n 1), (21, .iconst 3), (22, .imul), (23, .iload_n 2), (24, .iadd), (25, .invokestatic 71), (28, .goto 4), (31, .iconst (-1)), (32, .ireturn)],
  [(9, 0, 0, 1, 512), (15, 0, 0, 2, 513), (71, 5, 111, 2, 592)], none)
set_option maxRecDepth 100000 in
theorem mk_X0_boundOfNew : mx_mok (fun a => mt_nm[a]?) mt_X0_boundOfNew = true := sorry
def mt_X1_init : mM := (yX1_init, cX1_init, (1, none, 0, 1, 2), (273, 272, 0, 150),
  [(0, .aload_n 0), (1, .invokespecial 3), (4, .aload_n 0), (5, .sipush 441), (8, .newarray .int), (10, .putfield 9), (13, .aload_n 0), (14, .sipush 441), (17, .newarray .int), (19, .putfield 15), (22, .aload_n 0), (23, .iconst 4), (24, .newarray .int), (26, .putfield 18), (29, .aload_n 0), (30, .iconst 4), (31, .newarray .int), (33, .putfield 21), (36, .aload_n 0), (37, .sipush 1024), (40, .newarray .int), (42, .putfield 24), (45, .return_)],
  [(3, 8, 0, 0, 274), (9, 0, 1, 0, 275), (15, 0, 1, 1, 277), (18, 0, 1, 2, 279), (21, 0, 1, 3, 280), (24, 0, 1, 5, 282)], some 1)
set_option maxRecDepth 100000 in
theorem mk_X1_init : mx_mok (fun a => mt_nm[a]?) mt_X1_init = true := sorry
def mt_X1_startOver : mM := (yX1_startOver, cX1_startOver, (1, none, 0, 1, 0), (307, 306, 1, 150),
  [(0, .aload_n 0), (1, .iconst 0), (2, .putfield 27), (5, .aload_n 0), (6, .getfield 15), (9, .iconst 0), (10, .invokestatic 31), (13, .return_)],
  [(15, 0, 1, 1, 277), (27, 0, 1, 6, 284), (31, 4, 192, 2, 308)], none)
set_option maxRecDepth 100000 in
theorem mk_X1_startOver : mx_mok (fun a => mt_nm[a]?) mt_X1_startOver = true := sorry
def mt_X1_startArgs : mM := (yX1_startArgs, cX1_startArgs, (1, none, 0, 1, 0), (857, 856, 40, 150),
  [(0, .aload_n 0), (1, .iconst 0), (2, .putfield 37), (5, .return_)],
  [(37, 0, 1, 4, 281)], none)
set_option maxRecDepth 100000 in
theorem mk_X1_startArgs : mx_mok (fun a => mt_nm[a]?) mt_X1_startArgs = true := sorry
def mt_X1_addArg : mM := (yX1_addArg, cX1_addArg, (3, none, 2, 1, 0), (865, 864, 42, 150),
  [(0, .aload_n 0), (1, .getfield 18), (4, .aload_n 0), (5, .getfield 37), (8, .iload_n 1), (9, .invokestatic 40), (12, .aload_n 0), (13, .getfield 21), (16, .aload_n 0), (17, .getfield 37), (20, .iload_n 2), (21, .invokestatic 40), (24, .aload_n 0), (25, .dup), (26, .getfield 37), (29, .iconst 1), (30, .iadd), (31, .putfield 37), (34, .return_)],
  [(18, 0, 1, 2, 279), (21, 0, 1, 3, 280), (37, 0, 1, 4, 281), (40, 5, 113, 3, 345)], none)
set_option maxRecDepth 100000 in
theorem mk_X1_addArg : mx_mok (fun a => mt_nm[a]?) mt_X1_addArg = true := sorry
def mt_X1_addOwn : mM := (yX1_addOwn, cX1_addOwn, (5, none, 3, 1, 0), (319, 318, 3, 150),
  [(0, .aload_n 0), (1, .iload_n 3), (2, .iconst 1), (3, .iadd), (4, .invokevirtual 44), (7, .aload_n 0), (8, .getfield 9), (11, .iload_n 1), (12, .bipush 21), (14, .imul), (15, .iload_n 1), (16, .iadd), (17, .aload_n 0), (18, .getfield 27), (21, .invokestatic 40), (24, .aload_n 0), (25, .getfield 15), (28, .iload_n 1), (29, .bipush 21), (31, .imul), (32, .iload_n 1), (33, .iadd), (34, .iload_n 3), (35, .iconst 1), (36, .iadd), (37, .invokestatic 40), (40, .aload_n 0), (41, .iload_n 1), (42, .invokevirtual 48), (45, .iconst 0), (46, .istore 4), (48, .iload 4), (50, .iload_n 3), (51, .if_icmp .ge 20), (54, .aload_n 0), (55, .bipush 32), (57, .iload_n 2), (58, .iadd), (59, .iload 4), (61, .iadd), (62, .invokevirtual 48), (65, .iinc 4 1), (68, .goto (-20)), (71, .return_)],
  [(9, 0, 1, 0, 275), (15, 0, 1, 1, 277), (27, 0, 1, 6, 284), (40, 5, 113, 3, 345), (44, 2, 27, 1, 320), (48, 2, 28, 1, 348)], none)
set_option maxRecDepth 100000 in
theorem mk_X1_addOwn : mx_mok (fun a => mt_nm[a]?) mt_X1_addOwn = true := sorry
def mt_X1_addAny : mM := (yX1_addAny, cX1_addAny, (2, none, 1, 1, 0), (895, 894, 49, 150),
  [(0, .aload_n 0), (1, .getfield 15), (4, .iload_n 1), (5, .bipush 21), (7, .imul), (8, .iconst 0), (9, .iadd), (10, .invokestatic 51), (13, .ifCond .ne 44), (16, .aload_n 0), (17, .iconst 1), (18, .invokevirtual 44), (21, .aload_n 0), (22, .getfield 9), (25, .iload_n 1), (26, .bipush 21), (28, .imul), (29, .iconst 0), (30, .iadd), (31, .aload_n 0), (32, .getfield 27), (35, .invokestatic 40), (38, .aload_n 0), (39, .getfield 15), (42, .iload_n 1), (43, .bipush 21), (45, .imul), (46, .iconst 0), (47, .iadd), (48, .iconst 1), (49, .invokestatic 40), (52, .aload_n 0), (53, .iconst 0), (54, .invokevirtual 48), (57, .return_)],
  [(9, 0, 1, 0, 275), (15, 0, 1, 1, 277), (27, 0, 1, 6, 284), (40, 5, 113, 3, 345), (44, 2, 27, 1, 320), (48, 2, 28, 1, 348), (51, 5, 111, 2, 882)], none)
set_option maxRecDepth 100000 in
theorem mk_X1_addAny : mx_mok (fun a => mt_nm[a]?) mt_X1_addAny = true := sorry
def mt_X1_inherit : mM := (yX1_inherit, cX1_inherit, (10, (some .boolean), 4, 1, 0), (877, 876, 45, 150),
  [(0, .aload_n 0), (1, .iload_n 2), (2, .iload_n 3), (3, .invokevirtual 55), (6, .istore 5), (8, .iload 5), (10, .sipush 200), (13, .if_icmp .le 5), (16, .iconst 0), (17, .ireturn), (18, .aload_n 0), (19, .iload 5), (21, .invokevirtual 44), (24, .aload_n 0), (25, .getfield 27), (28, .istore 6), (30, .aload_n 0), (31, .getfield 9), (34, .iload_n 2), (35, .invokestatic 51), (38, .aload_n 0), (39, .getfield 15), (42, .iload_n 2), (43, .invokestatic 51), (46, .iadd), (47, .istore 7), (49, .aload_n 0), (50, .getfield 9), (53, .iload_n 2), (54, .invokestatic 51), (57, .istore 8), (59, .iload 8), (61, .iload 7), (63, .if_icmp .ge 50), (66, .aload_n 0), (67, .getfield 24), (70, .iload 8), (72, .invokestatic 51), (75, .istore 9), (77, .iload 9), (79, .invokestatic 59), (82, .ifCond .eq 19), (85, .aload_n 0), (86, .iload 9), (88, .bipush 32), (90, .isub), (91, .iload_n 3), (92, .isub), (93, .aload 4), (95, .invokevirtual 63), (98, .goto 9), (101, .aload_n 0), (102, .iload 9), (104, .invokevirtual 48), (107, .iinc 8 1), (110, .goto (-51)), (113, .aload_n 0), (114, .getfield 15), (117, .iload_n 1), (118, .invokestatic 51), (121, .ifCond .le 34), (124, .aload_n 0), (125, .iload 6), (127, .putfield 27), (130, .aload_n 0), (131, .aload_n 0), (132, .getfield 9), (135, .iload_n 1), (136, .invokestatic 51), (139, .aload_n 0), (140, .getfield 15), (143, .iload_n 1), (144, .invokestatic 51), (147, .iload 6), (149, .iload 5), (151, .invokevirtual 67), (154, .ireturn), (155, .aload_n 0), (156, .getfield 9), (159, .iload_n 1), (160, .iload 6), (162, .invokestatic 40), (165, .aload_n 0), (166, .getfield 15), (169, .iload_n 1), (170, .iload 5), (172, .invokestatic 40), (175, .iconst 1), (176, .ireturn)],
  [(9, 0, 1, 0, 275), (15, 0, 1, 1, 277), (24, 0, 1, 5, 282), (27, 0, 1, 6, 284), (40, 5, 113, 3, 345), (44, 2, 27, 1, 320), (48, 2, 28, 1, 348), (51, 5, 111, 2, 882), (55, 2, 24, 2, 878), (59, 5, 115, 1, 883), (63, 2, 25, 2, 884), (67, 2, 26, 4, 888)], none)
set_option maxRecDepth 100000 in
theorem mk_X1_inherit : mx_mok (fun a => mt_nm[a]?) mt_X1_inherit = true := sorry
def mt_X1_sizeWithArgs : mM := (yX1_sizeWithArgs, cX1_sizeWithArgs, (7, (some .int), 2, 1, 0), (881, 880, 46, 150),
  [(0, .iconst 0), (1, .istore_n 3), (2, .aload_n 0), (3, .getfield 9), (6, .iload_n 1), (7, .invokestatic 51), (10, .aload_n 0), (11, .getfield 15), (14, .iload_n 1), (15, .invokestatic 51), (18, .iadd), (19, .istore 4), (21, .aload_n 0), (22, .getfield 9), (25, .iload_n 1), (26, .invokestatic 51), (29, .istore 5), (31, .iload 5), (33, .iload 4), (35, .if_icmp .ge 49), (38, .aload_n 0), (39, .getfield 24), (42, .iload 5), (44, .invokestatic 51), (47, .istore 6), (49, .iload_n 3), (50, .iload 6), (52, .invokestatic 59), (55, .ifCond .eq 20), (58, .aload_n 0), (59, .getfield 21), (62, .iload 6), (64, .bipush 32), (66, .isub), (67, .iload_n 2), (68, .isub), (69, .invokestatic 51), (72, .goto 4), (75, .iconst 1), (76, .iadd), (77, .istore_n 3), (78, .iinc 5 1), (81, .goto (-50)), (84, .iload_n 3), (85, .ireturn)],
  [(9, 0, 1, 0, 275), (15, 0, 1, 1, 277), (21, 0, 1, 3, 280), (24, 0, 1, 5, 282), (51, 5, 111, 2, 882), (59, 5, 115, 1, 883)], none)
set_option maxRecDepth 100000 in
theorem mk_X1_sizeWithArgs : mx_mok (fun a => mt_nm[a]?) mt_X1_sizeWithArgs = true := sorry
def mt_X1_writeArg : mM := (yX1_writeArg, cX1_writeArg, (6, none, 2, 1, 0), (887, 886, 47, 150),
  [(0, .aload_n 0), (1, .getfield 18), (4, .iload_n 1), (5, .invokestatic 51), (8, .istore_n 3), (9, .iload_n 3), (10, .aload_n 0), (11, .getfield 21), (14, .iload_n 1), (15, .invokestatic 51), (18, .iadd), (19, .istore 4), (21, .iload_n 3), (22, .istore 5), (24, .iload 5), (26, .iload 4), (28, .if_icmp .ge 19), (31, .aload_n 0), (32, .aload_n 2), (33, .iload 5), (35, .invokestatic 51), (38, .invokevirtual 48), (41, .iinc 5 1), (44, .goto (-20)), (47, .return_)],
  [(18, 0, 1, 2, 279), (21, 0, 1, 3, 280), (48, 2, 28, 1, 348), (51, 5, 111, 2, 882)], none)
set_option maxRecDepth 100000 in
theorem mk_X1_writeArg : mx_mok (fun a => mt_nm[a]?) mt_X1_writeArg = true := sorry
def mt_X1_isSame : mM := (yX1_isSame, cX1_isSame, (6, (some .boolean), 4, 1, 0), (891, 890, 48, 150),
  [(0, .iload_n 2), (1, .iload 4), (3, .if_icmp .eq 5), (6, .iconst 0), (7, .ireturn), (8, .iconst 0), (9, .istore 5), (11, .iload 5), (13, .iload_n 2), (14, .if_icmp .ge 36), (17, .aload_n 0), (18, .getfield 24), (21, .iload_n 1), (22, .iload 5), (24, .iadd), (25, .invokestatic 51), (28, .aload_n 0), (29, .getfield 24), (32, .iload_n 3), (33, .iload 5), (35, .iadd), (36, .invokestatic 51), (39, .if_icmp .eq 5), (42, .iconst 0), (43, .ireturn), (44, .iinc 5 1), (47, .goto (-36)), (50, .iconst 1), (51, .ireturn)],
  [(24, 0, 1, 5, 282), (51, 5, 111, 2, 882)], none)
set_option maxRecDepth 100000 in
theorem mk_X1_isSame : mx_mok (fun a => mt_nm[a]?) mt_X1_isSame = true := sorry
def mt_X1_makeRoom : mM := (yX1_makeRoom, cX1_makeRoom, (3, none, 1, 1, 0), (323, 322, 4, 150),
  [(0, .aload_n 0), (1, .getfield 27), (4, .iload_n 1), (5, .iadd), (6, .istore_n 2), (7, .iload_n 2), (8, .aload_n 0), (9, .getfield 24), (12, .arraylength), (13, .if_icmp .le 36), (16, .iload_n 2), (17, .ldc 71), (19, .if_icmp .gt 30), (22, .aload_n 0), (23, .aload_n 0), (24, .getfield 24), (27, .ldc 71), (29, .iconst 2), (30, .aload_n 0), (31, .getfield 24), (34, .arraylength), (35, .imul), (36, .iload_n 2), (37, .invokestatic 72), (40, .invokestatic 77), (43, .invokestatic 80), (46, .putfield 24), (49, .return_)],
  [(24, 0, 1, 5, 282), (27, 0, 1, 6, 284), (71, 10, 0, 324, 88400)], none)
set_option maxRecDepth 100000 in
theorem mk_X1_makeRoom : mx_mok (fun a => mt_nm[a]?) mt_X1_makeRoom = true := sorry
def mt_X1_write : mM := (yX1_write, cX1_write, (2, none, 1, 1, 0), (351, 350, 5, 150),
  [(0, .aload_n 0), (1, .getfield 27), (4, .ifCond .lt 35), (7, .aload_n 0), (8, .getfield 27), (11, .aload_n 0), (12, .getfield 24), (15, .arraylength), (16, .if_icmp .ge 23), (19, .aload_n 0), (20, .getfield 24), (23, .aload_n 0), (24, .getfield 27), (27, .iload_n 1), (28, .iastore), (29, .aload_n 0), (30, .dup), (31, .getfield 27), (34, .iconst 1), (35, .iadd), (36, .putfield 27), (39, .return_)],
  [(24, 0, 1, 5, 282), (27, 0, 1, 6, 284)], none)
set_option maxRecDepth 100000 in
theorem mk_X1_write : mx_mok (fun a => mt_nm[a]?) mt_X1_write = true := sorry
def mt_X2_init : mM := (yX2_init, cX2_init, (1, none, 0, 2, 2), (243, 242, 0, 148),
  [(0, .aload_n 0), (1, .invokespecial 3), (4, .aload_n 0), (5, .sipush 1000), (8, .newarray .int), (10, .putfield 9), (13, .aload_n 0), (14, .sipush 1001), (17, .newarray .int), (19, .putfield 15), (22, .aload_n 0), (23, .sipush 1001), (26, .newarray .int), (28, .putfield 18), (31, .return_)],
  [(3, 8, 0, 0, 244), (9, 0, 2, 0, 245), (15, 0, 2, 1, 247), (18, 0, 2, 2, 248)], some 2)
set_option maxRecDepth 100000 in
theorem mk_X2_init : mx_mok (fun a => mt_nm[a]?) mt_X2_init = true := sorry
def mt_X2_writeType : mM := (yX2_writeType, cX2_writeType, (8, (some .int), 3, 2, 0), (1002, 1001, 69, 148),
  [(0, .aload_n 0), (1, .iconst 0), (2, .putfield 21), (5, .aload_n 0), (6, .iconst 0), (7, .putfield 25), (10, .aload_n 0), (11, .aload_n 1), (12, .aload_n 2), (13, .iload_n 3), (14, .invokevirtual 28), (17, .iconst 0), (18, .istore 4), (20, .iload 4), (22, .sipush 4000), (25, .if_icmp .ge 154), (28, .aload_n 0), (29, .getfield 25), (32, .ifCond .le 147), (35, .aload_n 0), (36, .getfield 21), (39, .sipush 1000), (42, .if_icmp .ge 137), (45, .aload_n 0), (46, .getfield 15), (49, .aload_n 0), (50, .getfield 25), (53, .iconst 1), (54, .isub), (55, .invokestatic 32), (58, .istore 5), (60, .aload_n 0), (61, .getfield 18), (64, .aload_n 0), (65, .getfield 25), (68, .iconst 1), (69, .isub), (70, .invokestatic 32), (73, .istore 6), (75, .aload_n 1), (76, .iload 5), (78, .invokevirtual 36), (81, .invokestatic 42), (84, .istore 7), (86, .iload 6), (88, .aload_n 1), (89, .iload 5), (91, .invokevirtual 46), (94, .if_icmp .lt 27), (97, .aload_n 0), (98, .dup), (99, .getfield 25), (102, .iconst 1), (103, .isub), (104, .putfield 25), (107, .iload 7), (109, .ifCond .eq 64), (112, .aload_n 0), (113, .bipush 62), (115, .invokevirtual 49), (118, .goto 55), (121, .aload_n 0), (122, .getfield 18), (125, .aload_n 0), (126, .getfield 25), (129, .iconst 1), (130, .isub), (131, .iload 6), (133, .iconst 1), (134, .iadd), (135, .invokestatic 53), (138, .iload 7), (140, .ifCond .eq 19), (143, .aload_n 0), (144, .iload 6), (146, .ifCond .ne 8), (149, .bipush 60), (151, .goto 5), (154, .bipush 44), (156, .invokevirtual 49), (159, .aload_n 0), (160, .aload_n 1), (161, .aload_n 2), (162, .aload_n 1), (163, .iload 5), (165, .iload 6), (167, .invokevirtual 57), (170, .invokevirtual 28), (173, .iinc 4 1), (176, .goto (-156)), (179, .aload_n 0), (180, .getfield 21), (183, .ireturn)],
  [(15, 0, 2, 1, 247), (18, 0, 2, 2, 248), (21, 0, 2, 3, 249), (25, 0, 2, 4, 251), (28, 2, 31, 3, 1003), (32, 5, 111, 2, 1029), (36, 3, 82, 1, 1007), (42, 5, 114, 1, 1030), (46, 3, 84, 1, 1028), (49, 2, 35, 1, 1013), (53, 5, 113, 3, 1017), (57, 3, 83, 2, 1031)], none)
set_option maxRecDepth 100000 in
theorem mk_X2_writeType : mx_mok (fun a => mt_nm[a]?) mt_X2_writeType = true := sorry
def mt_X2_openType : mM := (yX2_openType, cX2_openType, (4, none, 3, 2, 0), (1006, 1005, 70, 148),
  [(0, .aload_n 0), (1, .aload_n 2), (2, .aload_n 1), (3, .iload_n 3), (4, .invokevirtual 36), (7, .invokevirtual 61), (10, .aload_n 1), (11, .iload_n 3), (12, .invokevirtual 46), (15, .ifCond .le 47), (18, .aload_n 0), (19, .getfield 25), (22, .sipush 1001), (25, .if_icmp .ge 37), (28, .aload_n 0), (29, .getfield 15), (32, .aload_n 0), (33, .getfield 25), (36, .iload_n 3), (37, .invokestatic 53), (40, .aload_n 0), (41, .getfield 18), (44, .aload_n 0), (45, .getfield 25), (48, .iconst 0), (49, .invokestatic 53), (52, .aload_n 0), (53, .dup), (54, .getfield 25), (57, .iconst 1), (58, .iadd), (59, .putfield 25), (62, .return_)],
  [(15, 0, 2, 1, 247), (18, 0, 2, 2, 248), (25, 0, 2, 4, 251), (36, 3, 82, 1, 1007), (46, 3, 84, 1, 1028), (53, 5, 113, 3, 1017), (61, 2, 32, 2, 1008)], none)
set_option maxRecDepth 100000 in
theorem mk_X2_openType : mx_mok (fun a => mt_nm[a]?) mt_X2_openType = true := sorry
def mt_X2_writeHead : mM := (yX2_writeHead, cX2_writeHead, (3, none, 2, 2, 0), (1011, 1010, 71, 148),
  [(0, .iload_n 2), (1, .invokestatic 65), (4, .ifCond .eq 37), (7, .aload_n 0), (8, .bipush 63), (10, .invokevirtual 49), (13, .iload_n 2), (14, .sipush 200), (17, .if_icmp .eq 86), (20, .aload_n 0), (21, .iload_n 2), (22, .sipush 201), (25, .if_icmp .ne 8), (28, .bipush 58), (30, .goto 5), (33, .bipush 94), (35, .invokevirtual 49), (38, .goto 65), (41, .iload_n 2), (42, .sipush 300), (45, .if_icmp .lt 21), (48, .aload_n 0), (49, .bipush 35), (51, .invokevirtual 49), (54, .aload_n 0), (55, .iload_n 2), (56, .sipush 300), (59, .isub), (60, .invokevirtual 68), (63, .goto 40), (66, .iload_n 2), (67, .invokestatic 71), (70, .ifCond .eq 21), (73, .aload_n 0), (74, .aload_n 1), (75, .getfield 74), (78, .iload_n 2), (79, .bipush 32), (81, .isub), (82, .invokestatic 80), (85, .invokevirtual 84), (88, .goto 15), (91, .aload_n 0), (92, .aload_n 1), (93, .getfield 88), (96, .iload_n 2), (97, .invokestatic 80), (100, .invokevirtual 84), (103, .return_)],
  [(49, 2, 35, 1, 1013), (65, 5, 116, 1, 1012), (68, 2, 34, 1, 1018), (71, 5, 115, 1, 1022), (74, 1, 4, 5, 364), (80, 5, 112, 2, 1023), (84, 2, 33, 1, 1024), (88, 1, 4, 0, 353)], none)
set_option maxRecDepth 100000 in
theorem mk_X2_writeHead : mx_mok (fun a => mt_nm[a]?) mt_X2_writeHead = true := sorry
def mt_X2_writeName : mM := (yX2_writeName, cX2_writeName, (5, none, 1, 2, 0), (1027, 1026, 74, 148),
  [(0, .bipush 7), (2, .istore_n 3), (3, .iload_n 3), (4, .ifCond .lt 33), (7, .lload_n 1), (8, .bipush 8), (10, .iload_n 3), (11, .imul), (12, .lushr), (13, .l2i), (14, .sipush 255), (17, .iand), (18, .istore 4), (20, .iload 4), (22, .ifCond .eq 9), (25, .aload_n 0), (26, .iload 4), (28, .invokevirtual 49), (31, .iinc 3 (-1)), (34, .goto (-31)), (37, .return_)],
  [(49, 2, 35, 1, 1013)], none)
set_option maxRecDepth 100000 in
theorem mk_X2_writeName : mx_mok (fun a => mt_nm[a]?) mt_X2_writeName = true := sorry
def mt_X2_writeNumber : mM := (yX2_writeNumber, cX2_writeNumber, (2, none, 1, 2, 0), (1021, 1020, 73, 148),
  [(0, .iload_n 1), (1, .bipush 100), (3, .if_icmp .lt 14), (6, .aload_n 0), (7, .bipush 48), (9, .iload_n 1), (10, .bipush 100), (12, .idiv), (13, .iadd), (14, .invokevirtual 49), (17, .iload_n 1), (18, .bipush 10), (20, .if_icmp .lt 17), (23, .aload_n 0), (24, .bipush 48), (26, .iload_n 1), (27, .bipush 10), (29, .idiv), (30, .bipush 10), (32, .irem), (33, .iadd), (34, .invokevirtual 49), (37, .aload_n 0), (38, .bipush 48), (40, .iload_n 1), (41, .bipush 10), (43, .irem), (44, .iadd), (45, .invokevirtual 49), (48, .return_)],
  [(49, 2, 35, 1, 1013)], none)
set_option maxRecDepth 100000 in
theorem mk_X2_writeNumber : mx_mok (fun a => mt_nm[a]?) mt_X2_writeNumber = true := sorry
def mt_X2_write : mM := (yX2_write, cX2_write, (2, none, 1, 2, 0), (1016, 1015, 72, 148),
  [(0, .aload_n 0), (1, .getfield 21), (4, .sipush 1000), (7, .if_icmp .ge 25), (10, .aload_n 0), (11, .getfield 9), (14, .aload_n 0), (15, .getfield 21), (18, .iload_n 1), (19, .invokestatic 53), (22, .aload_n 0), (23, .dup), (24, .getfield 21), (27, .iconst 1), (28, .iadd), (29, .putfield 21), (32, .return_)],
  [(9, 0, 2, 0, 245), (21, 0, 2, 3, 249), (53, 5, 113, 3, 1017)], none)
set_option maxRecDepth 100000 in
theorem mk_X2_write : mx_mok (fun a => mt_nm[a]?) mt_X2_write = true := sorry
end
section
/-! ### methods, part 2 -/
def mt_X3_init : mM := (yX3_init, cX3_init, (3, none, 2, 3, 2), (427, 426, 0, 154),
  [(0, .aload_n 0), (1, .invokespecial 3), (4, .aload_n 0), (5, .sipush 300), (8, .newarray .int), (10, .putfield 9), (13, .aload_n 0), (14, .aload_n 1), (15, .putfield 15), (18, .aload_n 0), (19, .aload_n 2), (20, .putfield 19), (23, .aload_n 0), (24, .aload_n 0), (25, .getfield 9), (28, .putfield 23), (31, .return_)],
  [(3, 8, 0, 0, 428), (9, 0, 3, 1, 430), (15, 0, 3, 0, 429), (19, 0, 3, 2, 431), (23, 0, 3, 3, 432)], some 3)
set_option maxRecDepth 100000 in
theorem mk_X3_init : mx_mok (fun a => mt_nm[a]?) mt_X3_init = true := sorry
def mt_X3_start : mM := (yX3_start, cX3_start, (3, none, 2, 3, 0), (647, 646, 16, 154),
  [(0, .aload_n 0), (1, .aload_n 1), (2, .putfield 19), (5, .aload_n 0), (6, .aload_n 2), (7, .putfield 23), (10, .aload_n 0), (11, .iconst 0), (12, .putfield 26), (15, .aload_n 0), (16, .iconst (-1)), (17, .putfield 30), (20, .aload_n 0), (21, .iconst 0), (22, .putfield 33), (25, .aload_n 0), (26, .iconst (-1)), (27, .putfield 36), (30, .aload_n 0), (31, .iconst 0), (32, .putfield 39), (35, .aload_n 0), (36, .iconst 0), (37, .putfield 42), (40, .aload_n 0), (41, .iconst 0), (42, .putfield 45), (45, .aload_n 0), (46, .getfield 15), (49, .invokevirtual 49), (52, .return_)],
  [(15, 0, 3, 0, 429), (19, 0, 3, 2, 431), (23, 0, 3, 3, 432), (26, 0, 3, 4, 434), (30, 0, 3, 5, 436), (33, 0, 3, 6, 438), (36, 0, 3, 7, 440), (39, 0, 3, 8, 442), (42, 0, 3, 9, 444), (45, 0, 3, 10, 446), (49, 3, 72, 0, 648)], none)
set_option maxRecDepth 100000 in
theorem mk_X3_start : mx_mok (fun a => mt_nm[a]?) mt_X3_start = true := sorry
def mt_X3_readTable : mM := (yX3_readTable, cX3_readTable, (3, (some .boolean), 1, 3, 0), (642, 641, 15, 154),
  [(0, .aload_n 1), (1, .invokevirtual 54), (4, .aload_n 0), (5, .aload_n 1), (6, .aload_n 1), (7, .getfield 59), (10, .invokevirtual 62), (13, .iconst 0), (14, .istore_n 2), (15, .iload_n 2), (16, .bipush 21), (18, .if_icmp .gt 30), (21, .aload_n 0), (22, .invokevirtual 66), (25, .ifCond .ne 5), (28, .iconst 0), (29, .ireturn), (30, .aload_n 0), (31, .getfield 15), (34, .getfield 70), (37, .ifCond .ne 5), (40, .iconst 1), (41, .ireturn), (42, .iinc 2 1), (45, .goto (-30)), (48, .aload_n 0), (49, .bipush 6), (51, .invokevirtual 73), (54, .ireturn)],
  [(15, 0, 3, 0, 429), (54, 3, 55, 0, 643), (59, 1, 4, 10, 378), (62, 2, 37, 2, 644), (66, 2, 42, 0, 761), (70, 1, 5, 6, 190), (73, 2, 53, 1, 765)], none)
set_option maxRecDepth 100000 in
theorem mk_X3_readTable : mx_mok (fun a => mt_nm[a]?) mt_X3_readTable = true := sorry
def mt_X3_readQuestion : mM := (yX3_readQuestion, cX3_readQuestion, (2, (some .boolean), 1, 3, 0), (1202, 1201, 78, 154),
  [(0, .aload_n 0), (1, .aload_n 1), (2, .aload_n 0), (3, .getfield 9), (6, .invokevirtual 62), (9, .aload_n 0), (10, .invokevirtual 77), (13, .ifCond .eq 37), (16, .aload_n 0), (17, .iconst 0), (18, .iconst 0), (19, .iconst 0), (20, .invokevirtual 80), (23, .ifCond .eq 27), (26, .aload_n 0), (27, .aload_n 0), (28, .getfield 15), (31, .getfield 70), (34, .bipush 60), (36, .if_icmp .ne 7), (39, .iconst 1), (40, .goto 4), (43, .iconst 0), (44, .invokevirtual 84), (47, .ifCond .ne 5), (50, .iconst 0), (51, .ireturn), (52, .aload_n 0), (53, .getfield 15), (56, .invokevirtual 88), (59, .aload_n 0), (60, .getfield 15), (63, .getfield 70), (66, .bipush 61), (68, .if_icmp .eq 9), (71, .aload_n 0), (72, .iconst 2), (73, .invokevirtual 73), (76, .ireturn), (77, .aload_n 0), (78, .getfield 15), (81, .invokevirtual 88), (84, .aload_n 0), (85, .aload_n 0), (86, .getfield 26), (89, .putfield 33), (92, .aload_n 0), (93, .iconst 0), (94, .iconst 0), (95, .iconst 0), (96, .invokevirtual 80), (99, .ifCond .eq 29), (102, .aload_n 0), (103, .aload_n 0), (104, .getfield 15), (107, .getfield 70), (110, .ifCond .ne 7), (113, .iconst 1), (114, .goto 4), (117, .iconst 0), (118, .invokevirtual 84), (121, .ifCond .eq 7), (124, .iconst 1), (125, .goto 4), (128, .iconst 0), (129, .ireturn)],
  [(9, 0, 3, 1, 430), (15, 0, 3, 0, 429), (26, 0, 3, 4, 434), (33, 0, 3, 6, 438), (62, 2, 37, 2, 644), (70, 1, 5, 6, 190), (73, 2, 53, 1, 765), (77, 2, 41, 0, 948), (80, 2, 48, 3, 799), (84, 2, 51, 1, 827), (88, 3, 79, 0, 774)], none)
set_option maxRecDepth 100000 in
theorem mk_X3_readQuestion : mx_mok (fun a => mt_nm[a]?) mt_X3_readQuestion = true := sorry
def mt_X3_readPlace : mM := (yX3_readPlace, cX3_readPlace, (2, (some .boolean), 1, 3, 0), (947, 946, 57, 154),
  [(0, .aload_n 0), (1, .aload_n 1), (2, .aload_n 0), (3, .getfield 9), (6, .invokevirtual 62), (9, .aload_n 0), (10, .invokevirtual 77), (13, .ifCond .eq 36), (16, .aload_n 0), (17, .iconst 0), (18, .iconst 0), (19, .iconst 0), (20, .invokevirtual 80), (23, .ifCond .eq 26), (26, .aload_n 0), (27, .aload_n 0), (28, .getfield 15), (31, .getfield 70), (34, .iconst 5), (35, .if_icmp .ne 7), (38, .iconst 1), (39, .goto 4), (42, .iconst 0), (43, .invokevirtual 84), (46, .ifCond .ne 5), (49, .iconst 0), (50, .ireturn), (51, .aload_n 0), (52, .getfield 15), (55, .invokevirtual 88), (58, .aload_n 0), (59, .getfield 15), (62, .getfield 70), (65, .iconst 2), (66, .if_icmp .eq 9), (69, .aload_n 0), (70, .iconst 2), (71, .invokevirtual 73), (74, .ireturn), (75, .aload_n 0), (76, .aload_n 0), (77, .getfield 19), (80, .aload_n 0), (81, .getfield 15), (84, .getfield 91), (87, .invokevirtual 95), (90, .putfield 36), (93, .aload_n 0), (94, .getfield 36), (97, .ifCond .ge 9), (100, .aload_n 0), (101, .iconst 4), (102, .invokevirtual 73), (105, .ireturn), (106, .aload_n 0), (107, .getfield 15), (110, .invokevirtual 88), (113, .aload_n 0), (114, .getfield 15), (117, .getfield 70), (120, .ifCond .eq 11), (123, .aload_n 0), (124, .iconst 2), (125, .invokevirtual 73), (128, .ifCond .eq 7), (131, .iconst 1), (132, .goto 4), (135, .iconst 0), (136, .ireturn)],
  [(9, 0, 3, 1, 430), (15, 0, 3, 0, 429), (19, 0, 3, 2, 431), (36, 0, 3, 7, 440), (62, 2, 37, 2, 644), (70, 1, 5, 6, 190), (73, 2, 53, 1, 765), (77, 2, 41, 0, 948), (80, 2, 48, 3, 799), (84, 2, 51, 1, 827), (88, 3, 79, 0, 774), (91, 1, 5, 8, 194), (95, 3, 60, 1, 769)], none)
set_option maxRecDepth 100000 in
theorem mk_X3_readPlace : mx_mok (fun a => mt_nm[a]?) mt_X3_readPlace = true := sorry
def mt_X3_opening : mM := (yX3_opening, cX3_opening, (1, (some .boolean), 0, 3, 0), (951, 950, 58, 154),
  [(0, .aload_n 0), (1, .getfield 15), (4, .getfield 70), (7, .iconst 3), (8, .if_icmp .eq 5), (11, .iconst 1), (12, .ireturn), (13, .aload_n 0), (14, .getfield 15), (17, .invokevirtual 88), (20, .aload_n 0), (21, .getfield 15), (24, .getfield 70), (27, .iconst 2), (28, .if_icmp .eq 9), (31, .aload_n 0), (32, .iconst 2), (33, .invokevirtual 73), (36, .ireturn), (37, .aload_n 0), (38, .aload_n 0), (39, .getfield 19), (42, .aload_n 0), (43, .getfield 15), (46, .getfield 91), (49, .invokevirtual 95), (52, .putfield 30), (55, .aload_n 0), (56, .getfield 30), (59, .ifCond .ge 9), (62, .aload_n 0), (63, .iconst 4), (64, .invokevirtual 73), (67, .ireturn), (68, .aload_n 0), (69, .getfield 15), (72, .invokevirtual 88), (75, .aload_n 0), (76, .getfield 15), (79, .getfield 70), (82, .bipush 58), (84, .if_icmp .eq 9), (87, .aload_n 0), (88, .iconst 2), (89, .invokevirtual 73), (92, .ireturn), (93, .aload_n 0), (94, .getfield 15), (97, .invokevirtual 88), (100, .iconst 1), (101, .ireturn)],
  [(15, 0, 3, 0, 429), (19, 0, 3, 2, 431), (30, 0, 3, 5, 436), (70, 1, 5, 6, 190), (73, 2, 53, 1, 765), (88, 3, 79, 0, 774), (91, 1, 5, 8, 194), (95, 3, 60, 1, 769)], none)
set_option maxRecDepth 100000 in
theorem mk_X3_opening : mx_mok (fun a => mt_nm[a]?) mt_X3_opening = true := sorry
def mt_X3_declaration : mM := (yX3_declaration, cX3_declaration, (1, (some .boolean), 0, 3, 0), (764, 763, 21, 154),
  [(0, .aload_n 0), (1, .getfield 15), (4, .getfield 70), (7, .iconst 2), (8, .if_icmp .eq 9), (11, .aload_n 0), (12, .iconst 2), (13, .invokevirtual 73), (16, .ireturn), (17, .aload_n 0), (18, .getfield 19), (21, .aload_n 0), (22, .getfield 15), (25, .getfield 91), (28, .invokevirtual 95), (31, .ifCond .lt 9), (34, .aload_n 0), (35, .iconst 3), (36, .invokevirtual 73), (39, .ireturn), (40, .aload_n 0), (41, .getfield 19), (44, .getfield 99), (47, .bipush 21), (49, .if_icmp .lt 10), (52, .aload_n 0), (53, .bipush 6), (55, .invokevirtual 73), (58, .ireturn), (59, .aload_n 0), (60, .aload_n 0), (61, .getfield 19), (64, .aload_n 0), (65, .getfield 15), (68, .getfield 91), (71, .invokevirtual 102), (74, .putfield 30), (77, .aload_n 0), (78, .getfield 15), (81, .invokevirtual 88), (84, .aload_n 0), (85, .getfield 15), (88, .getfield 70), (91, .bipush 60), (93, .if_icmp .ne 10), (96, .aload_n 0), (97, .invokevirtual 105), (100, .ifCond .eq 40), (103, .aload_n 0), (104, .getfield 15), (107, .getfield 70), (110, .iconst 4), (111, .if_icmp .ne 10), (114, .aload_n 0), (115, .invokevirtual 108), (118, .ifCond .eq 22), (121, .aload_n 0), (122, .getfield 15), (125, .getfield 70), (128, .bipush 58), (130, .if_icmp .ne 12), (133, .aload_n 0), (134, .invokevirtual 111), (137, .ifCond .ne 5), (140, .iconst 0), (141, .ireturn), (142, .aload_n 0), (143, .getfield 15), (146, .getfield 70), (149, .bipush 59), (151, .if_icmp .eq 9), (154, .aload_n 0), (155, .iconst 2), (156, .invokevirtual 73), (159, .ireturn), (160, .aload_n 0), (161, .getfield 19), (164, .aload_n 0), (165, .getfield 26), (168, .putfield 114), (171, .aload_n 0), (172, .getfield 19), (175, .aload_n 0), (176, .getfield 30), (179, .invokevirtual 117), (182, .ifCond .ne 10), (185, .aload_n 0), (186, .bipush 8), (188, .invokevirtual 73), (191, .ireturn), (192, .aload_n 0), (193, .getfield 15), (196, .invokevirtual 88), (199, .iconst 1), (200, .ireturn)],
  [(15, 0, 3, 0, 429), (19, 0, 3, 2, 431), (26, 0, 3, 4, 434), (30, 0, 3, 5, 436), (70, 1, 5, 6, 190), (73, 2, 53, 1, 765), (88, 3, 79, 0, 774), (91, 1, 5, 8, 194), (95, 3, 60, 1, 769), (99, 1, 4, 12, 384), (102, 3, 56, 1, 773), (105, 2, 43, 0, 775), (108, 2, 44, 0, 790), (111, 2, 47, 0, 841), (114, 1, 4, 14, 390), (117, 3, 68, 1, 849)], none)
set_option maxRecDepth 100000 in
theorem mk_X3_declaration : mx_mok (fun a => mt_nm[a]?) mt_X3_declaration = true := sorry
def mt_X3_parameterNames : mM := (yX3_parameterNames, cX3_parameterNames, (2, (some .boolean), 0, 3, 0), (778, 777, 24, 154),
  [(0, .iconst 0), (1, .istore_n 1), (2, .iload_n 1), (3, .iconst 4), (4, .if_icmp .gt 136), (7, .aload_n 0), (8, .getfield 15), (11, .invokevirtual 88), (14, .aload_n 0), (15, .getfield 15), (18, .getfield 70), (21, .iconst 2), (22, .if_icmp .eq 9), (25, .aload_n 0), (26, .iconst 2), (27, .invokevirtual 73), (30, .ireturn), (31, .aload_n 0), (32, .getfield 19), (35, .aload_n 0), (36, .getfield 30), (39, .aload_n 0), (40, .getfield 15), (43, .getfield 91), (46, .invokevirtual 120), (49, .ifCond .lt 9), (52, .aload_n 0), (53, .iconst 3), (54, .invokevirtual 73), (57, .ireturn), (58, .iload_n 1), (59, .iconst 4), (60, .if_icmp .lt 10), (63, .aload_n 0), (64, .bipush 6), (66, .invokevirtual 73), (69, .ireturn), (70, .aload_n 0), (71, .getfield 19), (74, .aload_n 0), (75, .getfield 30), (78, .aload_n 0), (79, .getfield 15), (82, .getfield 91), (85, .invokevirtual 124), (88, .aload_n 0), (89, .getfield 15), (92, .invokevirtual 88), (95, .aload_n 0), (96, .getfield 15), (99, .getfield 70), (102, .bipush 62), (104, .if_icmp .ne 12), (107, .aload_n 0), (108, .getfield 15), (111, .invokevirtual 88), (114, .iconst 1), (115, .ireturn), (116, .aload_n 0), (117, .getfield 15), (120, .getfield 70), (123, .bipush 44), (125, .if_icmp .eq 9), (128, .aload_n 0), (129, .iconst 2), (130, .invokevirtual 73), (133, .ireturn), (134, .iinc 1 1), (137, .goto (-135)), (140, .aload_n 0), (141, .bipush 6), (143, .invokevirtual 73), (146, .ireturn)],
  [(15, 0, 3, 0, 429), (19, 0, 3, 2, 431), (30, 0, 3, 5, 436), (70, 1, 5, 6, 190), (73, 2, 53, 1, 765), (88, 3, 79, 0, 774), (91, 1, 5, 8, 194), (120, 3, 61, 2, 779), (124, 3, 57, 2, 786)], none)
set_option maxRecDepth 100000 in
theorem mk_X3_parameterNames : mx_mok (fun a => mt_nm[a]?) mt_X3_parameterNames = true := sorry
def mt_X3_bounds : mM := (yX3_bounds, cX3_bounds, (4, (some .boolean), 0, 3, 0), (793, 792, 27, 154),
  [(0, .iconst (-1)), (1, .istore_n 1), (2, .iconst 0), (3, .istore_n 2), (4, .iload_n 2), (5, .bipush 12), (7, .if_icmp .gt 133), (10, .aload_n 0), (11, .getfield 15), (14, .getfield 70), (17, .bipush 38), (19, .if_icmp .eq 14), (22, .aload_n 0), (23, .invokevirtual 128), (26, .istore_n 1), (27, .iload_n 1), (28, .ifCond .ge 5), (31, .iconst 0), (32, .ireturn), (33, .aload_n 0), (34, .getfield 15), (37, .invokevirtual 88), (40, .aload_n 0), (41, .getfield 26), (44, .istore_n 3), (45, .aload_n 0), (46, .iconst 0), (47, .iconst 2), (48, .aload_n 0), (49, .getfield 19), (52, .getfield 132), (55, .iload_n 1), (56, .invokestatic 135), (59, .iconst 2), (60, .if_icmp .lt 7), (63, .iconst 1), (64, .goto 4), (67, .iconst 0), (68, .invokevirtual 80), (71, .ifCond .eq 20), (74, .aload_n 0), (75, .aload_n 0), (76, .getfield 15), (79, .getfield 70), (82, .invokestatic 139), (85, .invokevirtual 84), (88, .ifCond .ne 5), (91, .iconst 0), (92, .ireturn), (93, .aload_n 0), (94, .getfield 19), (97, .iload_n 1), (98, .iload_n 3), (99, .aload_n 0), (100, .getfield 26), (103, .iload_n 3), (104, .isub), (105, .invokevirtual 142), (108, .aload_n 0), (109, .getfield 15), (112, .getfield 70), (115, .bipush 58), (117, .if_icmp .eq 15), (120, .aload_n 0), (121, .getfield 15), (124, .getfield 70), (127, .bipush 59), (129, .if_icmp .ne 5), (132, .iconst 1), (133, .ireturn), (134, .iinc 2 1), (137, .goto (-133)), (140, .aload_n 0), (141, .bipush 6), (143, .invokevirtual 73), (146, .ireturn)],
  [(15, 0, 3, 0, 429), (19, 0, 3, 2, 431), (26, 0, 3, 4, 434), (70, 1, 5, 6, 190), (73, 2, 53, 1, 765), (80, 2, 48, 3, 799), (84, 2, 51, 1, 827), (88, 3, 79, 0, 774), (128, 2, 46, 0, 794), (132, 1, 4, 7, 371), (135, 5, 111, 2, 798), (139, 4, 45, 1, 832), (142, 3, 58, 3, 835)], none)
set_option maxRecDepth 100000 in
theorem mk_X3_bounds : mx_mok (fun a => mt_nm[a]?) mt_X3_bounds = true := sorry
def mt_X3_isBehindBound : mM := (yX3_isBehindBound, cX3_isBehindBound, (1, (some .boolean), 1, 3, 1), (834, 833, 0, 154),
  [(0, .iload_n 0), (1, .bipush 38), (3, .if_icmp .eq 21), (6, .iload_n 0), (7, .bipush 44), (9, .if_icmp .eq 15), (12, .iload_n 0), (13, .bipush 58), (15, .if_icmp .eq 9), (18, .iload_n 0), (19, .bipush 59), (21, .if_icmp .ne 7), (24, .iconst 1), (25, .goto 4), (28, .iconst 0), (29, .ireturn)],
  [], none)
set_option maxRecDepth 100000 in
theorem mk_X3_isBehindBound : mx_mok (fun a => mt_nm[a]?) mt_X3_isBehindBound = true := sorry
def mt_X3_boundName : mM := (yX3_boundName, cX3_boundName, (2, (some .int), 0, 3, 0), (797, 796, 28, 154),
  [(0, .aload_n 0), (1, .getfield 15), (4, .invokevirtual 88), (7, .aload_n 0), (8, .getfield 15), (11, .getfield 70), (14, .iconst 2), (15, .if_icmp .eq 11), (18, .aload_n 0), (19, .iconst 2), (20, .invokevirtual 73), (23, .pop), (24, .iconst (-1)), (25, .ireturn), (26, .aload_n 0), (27, .getfield 19), (30, .aload_n 0), (31, .getfield 30), (34, .aload_n 0), (35, .getfield 15), (38, .getfield 91), (41, .invokevirtual 120), (44, .istore_n 1), (45, .iload_n 1), (46, .ifCond .lt 17), (49, .aload_n 0), (50, .getfield 19), (53, .getfield 132), (56, .iload_n 1), (57, .invokestatic 135), (60, .ifCond .le 19), (63, .aload_n 0), (64, .iload_n 1), (65, .ifCond .ge 7), (68, .iconst 4), (69, .goto 4), (72, .iconst 3), (73, .invokevirtual 73), (76, .pop), (77, .iconst (-1)), (78, .ireturn), (79, .aload_n 0), (80, .getfield 15), (83, .invokevirtual 88), (86, .aload_n 0), (87, .getfield 15), (90, .getfield 70), (93, .bipush 58), (95, .if_icmp .eq 11), (98, .aload_n 0), (99, .iconst 2), (100, .invokevirtual 73), (103, .pop), (104, .iconst (-1)), (105, .ireturn), (106, .iload_n 1), (107, .ireturn)],
  [(15, 0, 3, 0, 429), (19, 0, 3, 2, 431), (30, 0, 3, 5, 436), (70, 1, 5, 6, 190), (73, 2, 53, 1, 765), (88, 3, 79, 0, 774), (91, 1, 5, 8, 194), (120, 3, 61, 2, 779), (132, 1, 4, 7, 371), (135, 5, 111, 2, 798)], none)
set_option maxRecDepth 100000 in
theorem mk_X3_boundName : mx_mok (fun a => mt_nm[a]?) mt_X3_boundName = true := sorry
def mt_X3_supers : mM := (yX3_supers, cX3_supers, (3, (some .boolean), 0, 3, 0), (844, 843, 37, 154),
  [(0, .iconst 0), (1, .istore_n 1), (2, .iload_n 1), (3, .iconst 4), (4, .if_icmp .gt 104), (7, .aload_n 0), (8, .getfield 15), (11, .invokevirtual 88), (14, .aload_n 0), (15, .getfield 26), (18, .istore_n 2), (19, .aload_n 0), (20, .iconst 0), (21, .iconst 1), (22, .iload_n 1), (23, .iconst 4), (24, .if_icmp .lt 7), (27, .iconst 1), (28, .goto 4), (31, .iconst 0), (32, .invokevirtual 80), (35, .ifCond .eq 39), (38, .aload_n 0), (39, .aload_n 0), (40, .getfield 15), (43, .getfield 70), (46, .bipush 44), (48, .if_icmp .eq 15), (51, .aload_n 0), (52, .getfield 15), (55, .getfield 70), (58, .bipush 59), (60, .if_icmp .ne 7), (63, .iconst 1), (64, .goto 4), (67, .iconst 0), (68, .invokevirtual 84), (71, .ifCond .ne 5), (74, .iconst 0), (75, .ireturn), (76, .aload_n 0), (77, .getfield 19), (80, .aload_n 0), (81, .getfield 30), (84, .iload_n 2), (85, .invokevirtual 146), (88, .aload_n 0), (89, .getfield 15), (92, .getfield 70), (95, .bipush 59), (97, .if_icmp .ne 5), (100, .iconst 1), (101, .ireturn), (102, .iinc 1 1), (105, .goto (-103)), (108, .aload_n 0), (109, .bipush 6), (111, .invokevirtual 73), (114, .ireturn)],
  [(15, 0, 3, 0, 429), (19, 0, 3, 2, 431), (26, 0, 3, 4, 434), (30, 0, 3, 5, 436), (70, 1, 5, 6, 190), (73, 2, 53, 1, 765), (80, 2, 48, 3, 799), (84, 2, 51, 1, 827), (88, 3, 79, 0, 774), (146, 3, 59, 2, 845)], none)
set_option maxRecDepth 100000 in
theorem mk_X3_supers : mx_mok (fun a => mt_nm[a]?) mt_X3_supers = true := sorry
def mt_X3_type : mM := (yX3_type, cX3_type, (6, (some .boolean), 3, 3, 0), (802, 801, 29, 154),
  [(0, .aload_n 0), (1, .getfield 15), (4, .getfield 70), (7, .iconst 2), (8, .if_icmp .eq 9), (11, .aload_n 0), (12, .iconst 2), (13, .invokevirtual 73), (16, .ireturn), (17, .aload_n 0), (18, .getfield 19), (21, .aload_n 0), (22, .getfield 30), (25, .aload_n 0), (26, .getfield 15), (29, .getfield 91), (32, .invokevirtual 150), (35, .istore 4), (37, .iload 4), (39, .ifCond .ge 9), (42, .aload_n 0), (43, .iconst 4), (44, .invokevirtual 73), (47, .ireturn), (48, .iload_n 3), (49, .ifCond .ne 19), (52, .iload_n 1), (53, .bipush 8), (55, .if_icmp .ge 13), (58, .aload_n 0), (59, .getfield 26), (62, .sipush 300), (65, .if_icmp .lt 10), (68, .aload_n 0), (69, .bipush 6), (71, .invokevirtual 73), (74, .ireturn), (75, .iload_n 2), (76, .ifCond .eq 11), (79, .iload 4), (81, .invokestatic 153), (84, .ifCond .ne 17), (87, .iload_n 2), (88, .iconst 1), (89, .if_icmp .ne 19), (92, .iload 4), (94, .aload_n 0), (95, .getfield 30), (98, .if_icmp .ne 10), (101, .aload_n 0), (102, .bipush 7), (104, .invokevirtual 73), (107, .ireturn), (108, .aload_n 0), (109, .iload 4), (111, .invokevirtual 156), (114, .aload_n 0), (115, .getfield 15), (118, .invokevirtual 88), (121, .iconst 0), (122, .istore 5), (124, .aload_n 0), (125, .getfield 15), (128, .invokevirtual 160), (131, .ifCond .eq 43), (134, .iload 4), (136, .invokestatic 153), (139, .ifCond .eq 9), (142, .aload_n 0), (143, .iconst 5), (144, .invokevirtual 73), (147, .ireturn), (148, .aload_n 0), (149, .iload_n 1), (150, .iconst 1), (151, .iadd), (152, .iload_n 2), (153, .iconst 1), (154, .if_icmp .ne 7), (157, .iconst 1), (158, .goto 4), (161, .iconst 0), (162, .invokevirtual 163), (165, .istore 5), (167, .iload 5), (169, .ifCond .ge 5), (172, .iconst 0), (173, .ireturn), (174, .aload_n 0), (175, .iload 5), (177, .aload_n 0), (178, .getfield 19), (181, .iload 4), (183, .invokevirtual 167), (186, .if_icmp .eq 7), (189, .iconst 1), (190, .goto 4), (193, .iconst 0), (194, .putfield 45), (197, .iconst 1), (198, .ireturn)],
  [(15, 0, 3, 0, 429), (19, 0, 3, 2, 431), (26, 0, 3, 4, 434), (30, 0, 3, 5, 436), (45, 0, 3, 10, 446), (70, 1, 5, 6, 190), (73, 2, 53, 1, 765), (88, 3, 79, 0, 774), (91, 1, 5, 8, 194), (150, 3, 62, 2, 803), (153, 5, 115, 1, 809), (156, 2, 52, 1, 810), (160, 3, 78, 0, 815), (163, 2, 49, 2, 819), (167, 3, 63, 1, 831)], none)
set_option maxRecDepth 100000 in
theorem mk_X3_type : mx_mok (fun a => mt_nm[a]?) mt_X3_type = true := sorry
def mt_X3_args : mM := (yX3_args, cX3_args, (5, (some .int), 2, 3, 0), (822, 821, 33, 154),
  [(0, .iconst 1), (1, .istore_n 3), (2, .iload_n 3), (3, .sipush 300), (6, .if_icmp .gt 110), (9, .aload_n 0), (10, .getfield 15), (13, .invokevirtual 88), (16, .aload_n 0), (17, .getfield 15), (20, .getfield 70), (23, .bipush 63), (25, .if_icmp .ne 12), (28, .aload_n 0), (29, .iload_n 1), (30, .iload_n 2), (31, .invokevirtual 171), (34, .goto 10), (37, .aload_n 0), (38, .iload_n 1), (39, .iconst 0), (40, .iconst 0), (41, .invokevirtual 80), (44, .istore 4), (46, .iload 4), (48, .ifCond .eq 39), (51, .aload_n 0), (52, .aload_n 0), (53, .getfield 15), (56, .getfield 70), (59, .bipush 44), (61, .if_icmp .eq 15), (64, .aload_n 0), (65, .getfield 15), (68, .getfield 70), (71, .bipush 62), (73, .if_icmp .ne 7), (76, .iconst 1), (77, .goto 4), (80, .iconst 0), (81, .invokevirtual 84), (84, .ifCond .ne 5), (87, .iconst (-1)), (88, .ireturn), (89, .aload_n 0), (90, .getfield 15), (93, .getfield 70), (96, .bipush 62), (98, .if_icmp .ne 12), (101, .aload_n 0), (102, .getfield 15), (105, .invokevirtual 88), (108, .iload_n 3), (109, .ireturn), (110, .iinc 3 1), (113, .goto (-111)), (116, .aload_n 0), (117, .bipush 6), (119, .invokevirtual 73), (122, .pop), (123, .iconst (-1)), (124, .ireturn)],
  [(15, 0, 3, 0, 429), (70, 1, 5, 6, 190), (73, 2, 53, 1, 765), (80, 2, 48, 3, 799), (84, 2, 51, 1, 827), (88, 3, 79, 0, 774), (171, 2, 50, 2, 823)], none)
set_option maxRecDepth 100000 in
theorem mk_X3_args : mx_mok (fun a => mt_nm[a]?) mt_X3_args = true := sorry
def mt_X3_wild : mM := (yX3_wild, cX3_wild, (4, (some .boolean), 2, 3, 0), (826, 825, 34, 154),
  [(0, .aload_n 0), (1, .getfield 26), (4, .sipush 300), (7, .if_icmp .lt 10), (10, .aload_n 0), (11, .bipush 6), (13, .invokevirtual 73), (16, .ireturn), (17, .iload_n 2), (18, .ifCond .eq 10), (21, .aload_n 0), (22, .bipush 7), (24, .invokevirtual 73), (27, .ireturn), (28, .aload_n 0), (29, .getfield 15), (32, .invokevirtual 88), (35, .aload_n 0), (36, .getfield 15), (39, .getfield 70), (42, .bipush 58), (44, .if_icmp .ne 7), (47, .iconst 1), (48, .goto 4), (51, .iconst 0), (52, .istore_n 3), (53, .iload_n 3), (54, .ifCond .ne 24), (57, .aload_n 0), (58, .getfield 15), (61, .getfield 70), (64, .bipush 94), (66, .if_icmp .eq 12), (69, .aload_n 0), (70, .sipush 200), (73, .invokevirtual 156), (76, .iconst 1), (77, .ireturn), (78, .aload_n 0), (79, .iload_n 3), (80, .ifCond .eq 9), (83, .sipush 201), (86, .goto 6), (89, .sipush 202), (92, .invokevirtual 156), (95, .aload_n 0), (96, .getfield 15), (99, .invokevirtual 88), (102, .aload_n 0), (103, .iload_n 1), (104, .iconst 0), (105, .iconst 0), (106, .invokevirtual 80), (109, .ireturn)],
  [(15, 0, 3, 0, 429), (26, 0, 3, 4, 434), (70, 1, 5, 6, 190), (73, 2, 53, 1, 765), (80, 2, 48, 3, 799), (88, 3, 79, 0, 774), (156, 2, 52, 1, 810)], none)
set_option maxRecDepth 100000 in
theorem mk_X3_wild : mx_mok (fun a => mt_nm[a]?) mt_X3_wild = true := sorry
def mt_X3_behindType : mM := (yX3_behindType, cX3_behindType, (2, (some .boolean), 1, 3, 0), (830, 829, 35, 154),
  [(0, .iload_n 1), (1, .ifCond .ne 9), (4, .aload_n 0), (5, .iconst 2), (6, .invokevirtual 73), (9, .ireturn), (10, .aload_n 0), (11, .getfield 45), (14, .ifCond .eq 11), (17, .aload_n 0), (18, .iconst 5), (19, .invokevirtual 73), (22, .ifCond .eq 7), (25, .iconst 1), (26, .goto 4), (29, .iconst 0), (30, .ireturn)],
  [(45, 0, 3, 10, 446), (73, 2, 53, 1, 765)], none)
set_option maxRecDepth 100000 in
theorem mk_X3_behindType : mx_mok (fun a => mt_nm[a]?) mt_X3_behindType = true := sorry
def mt_X3_tell : mM := (yX3_tell, cX3_tell, (2, none, 1, 3, 0), (813, 812, 31, 154),
  [(0, .aload_n 0), (1, .getfield 23), (4, .aload_n 0), (5, .getfield 26), (8, .iload_n 1), (9, .invokestatic 175), (12, .aload_n 0), (13, .dup), (14, .getfield 26), (17, .iconst 1), (18, .iadd), (19, .putfield 26), (22, .return_)],
  [(23, 0, 3, 3, 432), (26, 0, 3, 4, 434), (175, 5, 113, 3, 814)], none)
set_option maxRecDepth 100000 in
theorem mk_X3_tell : mx_mok (fun a => mt_nm[a]?) mt_X3_tell = true := sorry
def mt_X3_fail : mM := (yX3_fail, cX3_fail, (2, (some .boolean), 1, 3, 0), (768, 767, 22, 154),
  [(0, .aload_n 0), (1, .aload_n 0), (2, .getfield 15), (5, .getfield 70), (8, .iconst 1), (9, .if_icmp .ne 7), (12, .iconst 1), (13, .goto 4), (16, .iload_n 1), (17, .putfield 39), (20, .aload_n 0), (21, .aload_n 0), (22, .getfield 15), (25, .getfield 179), (28, .putfield 42), (31, .iconst 0), (32, .ireturn)],
  [(15, 0, 3, 0, 429), (39, 0, 3, 8, 442), (42, 0, 3, 9, 444), (70, 1, 5, 6, 190), (179, 1, 5, 7, 193)], none)
set_option maxRecDepth 100000 in
theorem mk_X3_fail : mx_mok (fun a => mt_nm[a]?) mt_X3_fail = true := sorry
def mt_X4_init : mM := (yX4_init, cX4_init, (1, none, 0, 4, 2), (267, 266, 0, 149),
  [(0, .aload_n 0), (1, .invokespecial 3), (4, .aload_n 0), (5, .bipush 21), (7, .newarray .long), (9, .putfield 9), (12, .aload_n 0), (13, .bipush 21), (15, .newarray .int), (17, .putfield 15), (20, .aload_n 0), (21, .bipush 21), (23, .newarray .int), (25, .putfield 19), (28, .aload_n 0), (29, .bipush 21), (31, .newarray .int), (33, .putfield 22), (36, .aload_n 0), (37, .bipush 84), (39, .newarray .int), (41, .putfield 25), (44, .aload_n 0), (45, .bipush 80), (47, .newarray .long), (49, .putfield 28), (52, .aload_n 0), (53, .bipush 80), (55, .newarray .int), (57, .putfield 31), (60, .aload_n 0), (61, .bipush 80), (63, .newarray .int), (65, .putfield 34), (68, .aload_n 0), (69, .sipush 160), (72, .newarray .int), (74, .putfield 37), (77, .aload_n 0), (78, .sipush 160), (81, .newarray .int), (83, .putfield 40), (86, .aload_n 0), (87, .sipush 300), (90, .newarray .int), (92, .putfield 43), (95, .aload_n 0), (96, .new 46), (99, .dup), (100, .invokespecial 48), (103, .putfield 49), (106, .aload_n 0), (107, .invokevirtual 53), (110, .return_)],
  [(3, 8, 0, 0, 268), (9, 0, 4, 0, 352), (15, 0, 4, 1, 355), (19, 0, 4, 2, 359), (22, 0, 4, 3, 360), (25, 0, 4, 4, 362), (28, 0, 4, 5, 363), (31, 0, 4, 6, 366), (34, 0, 4, 7, 368), (37, 0, 4, 8, 372), (40, 0, 4, 9, 374), (43, 0, 4, 10, 376), (46, 9, 1, 0, 269), (48, 7, 17, 0, 271), (49, 0, 4, 11, 380), (53, 2, 55, 0, 300)], some 4)
set_option maxRecDepth 100000 in
theorem mk_X4_init : mx_mok (fun a => mt_nm[a]?) mt_X4_init = true := sorry
def mt_X4_startOver : mM := (yX4_startOver, cX4_startOver, (1, none, 0, 4, 0), (303, 302, 0, 149),
  [(0, .aload_n 0), (1, .iconst 0), (2, .putfield 56), (5, .aload_n 0), (6, .iconst 0), (7, .putfield 60), (10, .aload_n 0), (11, .iconst 0), (12, .putfield 63), (15, .aload_n 0), (16, .getfield 49), (19, .invokevirtual 66), (22, .aload_n 0), (23, .ldc2_w 67), (26, .invokevirtual 69), (29, .pop), (30, .aload_n 0), (31, .getfield 49), (34, .iconst 0), (35, .iconst 0), (36, .iconst 0), (37, .invokevirtual 73), (40, .return_)],
  [(49, 0, 4, 11, 380), (56, 0, 4, 12, 382), (60, 0, 4, 13, 385), (63, 0, 4, 14, 388), (66, 3, 18, 0, 304), (67, 11, 0, 311, 4288121), (69, 2, 56, 1, 312), (73, 3, 21, 3, 316)], none)
set_option maxRecDepth 100000 in
theorem mk_X4_startOver : mx_mok (fun a => mt_nm[a]?) mt_X4_startOver = true := sorry
def mt_X4_addClass : mM := (yX4_addClass, cX4_addClass, (4, (some .int), 1, 4, 0), (315, 314, 2, 149),
  [(0, .aload_n 0), (1, .getfield 56), (4, .istore_n 3), (5, .iload_n 3), (6, .bipush 21), (8, .if_icmp .ge 44), (11, .aload_n 0), (12, .getfield 9), (15, .iload_n 3), (16, .lload_n 1), (17, .lastore), (18, .aload_n 0), (19, .getfield 15), (22, .iload_n 3), (23, .aload_n 0), (24, .getfield 60), (27, .iastore), (28, .aload_n 0), (29, .getfield 19), (32, .iload_n 3), (33, .iconst 0), (34, .iastore), (35, .aload_n 0), (36, .getfield 22), (39, .iload_n 3), (40, .iconst 0), (41, .iastore), (42, .aload_n 0), (43, .dup), (44, .getfield 56), (47, .iconst 1), (48, .iadd), (49, .putfield 56), (52, .iload_n 3), (53, .ireturn)],
  [(9, 0, 4, 0, 352), (15, 0, 4, 1, 355), (19, 0, 4, 2, 359), (22, 0, 4, 3, 360), (56, 0, 4, 12, 382), (60, 0, 4, 13, 385)], none)
set_option maxRecDepth 100000 in
theorem mk_X4_addClass : mx_mok (fun a => mt_nm[a]?) mt_X4_addClass = true := sorry
def mt_X4_addParameter : mM := (yX4_addParameter, cX4_addParameter, (5, none, 2, 4, 0), (789, 788, 26, 149),
  [(0, .aload_n 0), (1, .getfield 60), (4, .istore 4), (6, .iload 4), (8, .bipush 80), (10, .if_icmp .ge 57), (13, .iload_n 1), (14, .ifCond .lt 53), (17, .iload_n 1), (18, .bipush 21), (20, .if_icmp .ge 47), (23, .aload_n 0), (24, .getfield 28), (27, .iload 4), (29, .lload_n 2), (30, .lastore), (31, .aload_n 0), (32, .getfield 31), (35, .iload 4), (37, .iload_n 1), (38, .iastore), (39, .aload_n 0), (40, .getfield 34), (43, .iload 4), (45, .iconst 0), (46, .iastore), (47, .aload_n 0), (48, .getfield 19), (51, .iload_n 1), (52, .dup2), (53, .iaload), (54, .iconst 1), (55, .iadd), (56, .iastore), (57, .aload_n 0), (58, .dup), (59, .getfield 60), (62, .iconst 1), (63, .iadd), (64, .putfield 60), (67, .return_)],
  [(19, 0, 4, 2, 359), (28, 0, 4, 5, 363), (31, 0, 4, 6, 366), (34, 0, 4, 7, 368), (60, 0, 4, 13, 385)], none)
set_option maxRecDepth 100000 in
theorem mk_X4_addParameter : mx_mok (fun a => mt_nm[a]?) mt_X4_addParameter = true := sorry
def mt_X4_addBound : mM := (yX4_addBound, cX4_addBound, (5, none, 3, 4, 0), (838, 837, 36, 149),
  [(0, .aload_n 0), (1, .getfield 34), (4, .iload_n 1), (5, .invokestatic 77), (8, .istore 4), (10, .iload 4), (12, .ifCond .lt 49), (15, .iload 4), (17, .iconst 2), (18, .if_icmp .ge 43), (21, .aload_n 0), (22, .getfield 37), (25, .iload_n 1), (26, .iconst 2), (27, .imul), (28, .iload 4), (30, .iadd), (31, .iload_n 2), (32, .invokestatic 81), (35, .aload_n 0), (36, .getfield 40), (39, .iload_n 1), (40, .iconst 2), (41, .imul), (42, .iload 4), (44, .iadd), (45, .iload_n 3), (46, .invokestatic 81), (49, .aload_n 0), (50, .getfield 34), (53, .iload_n 1), (54, .iload 4), (56, .iconst 1), (57, .iadd), (58, .invokestatic 81), (61, .return_)],
  [(34, 0, 4, 7, 368), (37, 0, 4, 8, 372), (40, 0, 4, 9, 374), (77, 5, 111, 2, 839), (81, 5, 113, 3, 840)], none)
set_option maxRecDepth 100000 in
theorem mk_X4_addBound : mx_mok (fun a => mt_nm[a]?) mt_X4_addBound = true := sorry
def mt_X4_addSuper : mM := (yX4_addSuper, cX4_addSuper, (4, none, 2, 4, 0), (848, 847, 38, 149),
  [(0, .aload_n 0), (1, .getfield 22), (4, .iload_n 1), (5, .invokestatic 77), (8, .istore_n 3), (9, .iload_n 3), (10, .ifCond .lt 32), (13, .iload_n 3), (14, .iconst 4), (15, .if_icmp .ge 27), (18, .aload_n 0), (19, .getfield 25), (22, .iload_n 1), (23, .iconst 4), (24, .imul), (25, .iload_n 3), (26, .iadd), (27, .iload_n 2), (28, .invokestatic 81), (31, .aload_n 0), (32, .getfield 22), (35, .iload_n 1), (36, .iload_n 3), (37, .iconst 1), (38, .iadd), (39, .invokestatic 81), (42, .return_)],
  [(22, 0, 4, 3, 360), (25, 0, 4, 4, 362), (77, 5, 111, 2, 839), (81, 5, 113, 3, 840)], none)
set_option maxRecDepth 100000 in
theorem mk_X4_addSuper : mx_mok (fun a => mt_nm[a]?) mt_X4_addSuper = true := sorry
def mt_X4_findClass : mM := (yX4_findClass, cX4_findClass, (4, (some .int), 1, 4, 0), (772, 771, 23, 149),
  [(0, .iconst 0), (1, .istore_n 3), (2, .iload_n 3), (3, .aload_n 0), (4, .getfield 56), (7, .if_icmp .ge 28), (10, .iload_n 3), (11, .bipush 21), (13, .if_icmp .ge 22), (16, .aload_n 0), (17, .getfield 9), (20, .iload_n 3), (21, .laload), (22, .lload_n 1), (23, .lcmp), (24, .ifCond .ne 5), (27, .iload_n 3), (28, .ireturn), (29, .iinc 3 1), (32, .goto (-30)), (35, .iconst (-1)), (36, .ireturn)],
  [(9, 0, 4, 0, 352), (56, 0, 4, 12, 382)], none)
set_option maxRecDepth 100000 in
theorem mk_X4_findClass : mx_mok (fun a => mt_nm[a]?) mt_X4_findClass = true := sorry
def mt_X4_findParameter : mM := (yX4_findParameter, cX4_findParameter, (7, (some .int), 2, 4, 0), (782, 781, 25, 149),
  [(0, .iload_n 1), (1, .ifCond .lt 17), (4, .iload_n 1), (5, .aload_n 0), (6, .getfield 56), (9, .if_icmp .ge 9), (12, .iload_n 1), (13, .bipush 21), (15, .if_icmp .lt 5), (18, .iconst (-1)), (19, .ireturn), (20, .aload_n 0), (21, .getfield 15), (24, .iload_n 1), (25, .iaload), (26, .istore 4), (28, .iload 4), (30, .aload_n 0), (31, .getfield 19), (34, .iload_n 1), (35, .iaload), (36, .iadd), (37, .istore 5), (39, .iload 4), (41, .istore 6), (43, .iload 6), (45, .iload 5), (47, .if_icmp .ge 26), (50, .aload_n 0), (51, .getfield 28), (54, .iload 6), (56, .invokestatic 85), (59, .lload_n 2), (60, .lcmp), (61, .ifCond .ne 6), (64, .iload 6), (66, .ireturn), (67, .iinc 6 1), (70, .goto (-27)), (73, .iconst (-1)), (74, .ireturn)],
  [(15, 0, 4, 1, 355), (19, 0, 4, 2, 359), (28, 0, 4, 5, 363), (56, 0, 4, 12, 382), (85, 5, 112, 2, 783)], none)
set_option maxRecDepth 100000 in
theorem mk_X4_findParameter : mx_mok (fun a => mt_nm[a]?) mt_X4_findParameter = true := sorry
def mt_X4_headOf : mM := (yX4_headOf, cX4_headOf, (5, (some .int), 2, 4, 0), (806, 805, 30, 149),
  [(0, .aload_n 0), (1, .iload_n 1), (2, .lload_n 2), (3, .invokevirtual 89), (6, .istore 4), (8, .iload 4), (10, .ifCond .lt 11), (13, .bipush 32), (15, .iload 4), (17, .iadd), (18, .goto 8), (21, .aload_n 0), (22, .lload_n 2), (23, .invokevirtual 93), (26, .ireturn)],
  [(89, 2, 61, 2, 807), (93, 2, 60, 1, 808)], none)
set_option maxRecDepth 100000 in
theorem mk_X4_headOf : mx_mok (fun a => mt_nm[a]?) mt_X4_headOf = true := sorry
def mt_X4_arity : mM := (yX4_arity, cX4_arity, (2, (some .int), 1, 4, 0), (583, 582, 10, 149),
  [(0, .iload_n 1), (1, .ifCond .lt 24), (4, .iload_n 1), (5, .aload_n 0), (6, .getfield 56), (9, .if_icmp .ge 16), (12, .iload_n 1), (13, .bipush 21), (15, .if_icmp .ge 10), (18, .aload_n 0), (19, .getfield 19), (22, .iload_n 1), (23, .iaload), (24, .ireturn), (25, .iload_n 1), (26, .sipush 201), (29, .if_icmp .eq 10), (32, .iload_n 1), (33, .sipush 202), (36, .if_icmp .ne 7), (39, .iconst 1), (40, .goto 4), (43, .iconst 0), (44, .ireturn)],
  [(19, 0, 4, 2, 359), (56, 0, 4, 12, 382)], none)
set_option maxRecDepth 100000 in
theorem mk_X4_arity : mx_mok (fun a => mt_nm[a]?) mt_X4_arity = true := sorry
def mt_X4_endOfPart : mM := (yX4_endOfPart, cX4_endOfPart, (4, (some .int), 1, 4, 0), (861, 860, 41, 149),
  [(0, .iconst 1), (1, .istore_n 2), (2, .iload_n 1), (3, .istore_n 3), (4, .iload_n 3), (5, .aload_n 0), (6, .getfield 63), (9, .if_icmp .ge 34), (12, .iload_n 2), (13, .aload_n 0), (14, .aload_n 0), (15, .getfield 43), (18, .iload_n 3), (19, .invokestatic 77), (22, .invokevirtual 96), (25, .iconst 1), (26, .isub), (27, .iadd), (28, .istore_n 2), (29, .iload_n 2), (30, .ifCond .ne 7), (33, .iload_n 3), (34, .iconst 1), (35, .iadd), (36, .ireturn), (37, .iinc 3 1), (40, .goto (-36)), (43, .aload_n 0), (44, .getfield 63), (47, .ireturn)],
  [(43, 0, 4, 10, 376), (63, 0, 4, 14, 388), (77, 5, 111, 2, 839), (96, 2, 63, 1, 853)], none)
set_option maxRecDepth 100000 in
theorem mk_X4_endOfPart : mx_mok (fun a => mt_nm[a]?) mt_X4_endOfPart = true := sorry
def mt_X4_overLength : mM := (yX4_overLength, cX4_overLength, (3, (some .int), 2, 4, 0), (873, 872, 44, 149),
  [(0, .aload_n 0), (1, .getfield 49), (4, .getfield 100), (7, .iload_n 1), (8, .bipush 21), (10, .imul), (11, .iload_n 2), (12, .iadd), (13, .invokestatic 77), (16, .ireturn)],
  [(49, 0, 4, 11, 380), (77, 5, 111, 2, 839), (100, 1, 1, 1, 278)], none)
set_option maxRecDepth 100000 in
theorem mk_X4_overLength : mx_mok (fun a => mt_nm[a]?) mt_X4_overLength = true := sorry
def mt_X4_overStart : mM := (yX4_overStart, cX4_overStart, (3, (some .int), 2, 4, 0), (998, 997, 68, 149),
  [(0, .aload_n 0), (1, .getfield 49), (4, .getfield 103), (7, .iload_n 1), (8, .bipush 21), (10, .imul), (11, .iload_n 2), (12, .iadd), (13, .invokestatic 77), (16, .ireturn)],
  [(49, 0, 4, 11, 380), (77, 5, 111, 2, 839), (103, 1, 1, 0, 276)], none)
set_option maxRecDepth 100000 in
theorem mk_X4_overStart : mx_mok (fun a => mt_nm[a]?) mt_X4_overStart = true := sorry
def mt_X4_countOver : mM := (yX4_countOver, cX4_countOver, (4, (some .int), 1, 4, 0), (1163, 1162, 77, 149),
  [(0, .iconst 0), (1, .istore_n 2), (2, .iconst 0), (3, .istore_n 3), (4, .iload_n 3), (5, .aload_n 0), (6, .getfield 56), (9, .if_icmp .ge 21), (12, .aload_n 0), (13, .iload_n 1), (14, .iload_n 3), (15, .invokevirtual 106), (18, .ifCond .le 6), (21, .iinc 2 1), (24, .iinc 3 1), (27, .goto (-23)), (30, .iload_n 2), (31, .ireturn)],
  [(56, 0, 4, 12, 382), (106, 2, 65, 2, 870)], none)
set_option maxRecDepth 100000 in
theorem mk_X4_countOver : mx_mok (fun a => mt_nm[a]?) mt_X4_countOver = true := sorry
def mt_X4_closeClass : mM := (yX4_closeClass, cX4_closeClass, (8, (some .boolean), 1, 4, 0), (852, 851, 39, 149),
  [(0, .aload_n 0), (1, .getfield 49), (4, .iload_n 1), (5, .aload_n 0), (6, .getfield 15), (9, .iload_n 1), (10, .invokestatic 77), (13, .aload_n 0), (14, .iload_n 1), (15, .invokevirtual 96), (18, .invokevirtual 73), (21, .iconst 0), (22, .istore_n 2), (23, .iload_n 2), (24, .aload_n 0), (25, .getfield 22), (28, .iload_n 1), (29, .invokestatic 77), (32, .if_icmp .ge 102), (35, .aload_n 0), (36, .getfield 25), (39, .iload_n 1), (40, .iconst 4), (41, .imul), (42, .iload_n 2), (43, .iadd), (44, .invokestatic 77), (47, .istore_n 3), (48, .aload_n 0), (49, .getfield 43), (52, .iload_n 3), (53, .invokestatic 77), (56, .istore 4), (58, .aload_n 0), (59, .getfield 49), (62, .invokevirtual 110), (65, .iload_n 3), (66, .iconst 1), (67, .iadd), (68, .istore 5), (70, .iconst 0), (71, .istore 6), (73, .iload 6), (75, .aload_n 0), (76, .iload 4), (78, .invokevirtual 96), (81, .if_icmp .ge 35), (84, .aload_n 0), (85, .iload 5), (87, .invokevirtual 113), (90, .istore 7), (92, .aload_n 0), (93, .getfield 49), (96, .iload 5), (98, .iload 7), (100, .iload 5), (102, .isub), (103, .invokevirtual 116), (106, .iload 7), (108, .istore 5), (110, .iinc 6 1), (113, .goto (-40)), (116, .aload_n 0), (117, .iload_n 1), (118, .iload 4), (120, .invokevirtual 120), (123, .ifCond .ne 5), (126, .iconst 0), (127, .ireturn), (128, .iinc 2 1), (131, .goto (-108)), (134, .aload_n 0), (135, .getfield 49), (138, .iload_n 1), (139, .invokevirtual 124), (142, .iconst 1), (143, .ireturn)],
  [(15, 0, 4, 1, 355), (22, 0, 4, 3, 360), (25, 0, 4, 4, 362), (43, 0, 4, 10, 376), (49, 0, 4, 11, 380), (73, 3, 21, 3, 316), (77, 5, 111, 2, 839), (96, 2, 63, 1, 853), (110, 3, 19, 0, 854), (113, 2, 64, 1, 858), (116, 3, 20, 2, 862), (120, 2, 69, 2, 866), (124, 3, 22, 1, 892)], none)
set_option maxRecDepth 100000 in
theorem mk_X4_closeClass : mx_mok (fun a => mt_nm[a]?) mt_X4_closeClass = true := sorry
def mt_X4_inheritAll : mM := (yX4_inheritAll, cX4_inheritAll, (5, (some .boolean), 2, 4, 0), (869, 868, 43, 149),
  [(0, .aload_n 0), (1, .getfield 15), (4, .iload_n 2), (5, .invokestatic 77), (8, .istore_n 3), (9, .iconst 0), (10, .istore 4), (12, .iload 4), (14, .aload_n 0), (15, .getfield 56), (18, .if_icmp .ge 50), (21, .aload_n 0), (22, .iload_n 2), (23, .iload 4), (25, .invokevirtual 106), (28, .ifCond .le 34), (31, .aload_n 0), (32, .getfield 49), (35, .iload_n 1), (36, .bipush 21), (38, .imul), (39, .iload 4), (41, .iadd), (42, .iload_n 2), (43, .bipush 21), (45, .imul), (46, .iload 4), (48, .iadd), (49, .iload_n 3), (50, .aload_n 0), (51, .getfield 43), (54, .invokevirtual 128), (57, .ifCond .ne 5), (60, .iconst 0), (61, .ireturn), (62, .iinc 4 1), (65, .goto (-53)), (68, .iconst 1), (69, .ireturn)],
  [(15, 0, 4, 1, 355), (43, 0, 4, 10, 376), (49, 0, 4, 11, 380), (56, 0, 4, 12, 382), (77, 5, 111, 2, 839), (106, 2, 65, 2, 870), (128, 3, 23, 4, 874)], none)
set_option maxRecDepth 100000 in
theorem mk_X4_inheritAll : mx_mok (fun a => mt_nm[a]?) mt_X4_inheritAll = true := sorry
end
section
/-! ### methods, part 3 -/
def mt_X5_init : mM := (yX5_init, cX5_init, (1, none, 0, 5, 2), (181, 180, 0, 146),
  [(0, .aload_n 0), (1, .invokespecial 3), (4, .aload_n 0), (5, .sipush 800), (8, .newarray .int), (10, .putfield 9), (13, .aload_n 0), (14, .sipush 801), (17, .newarray .int), (19, .putfield 15), (22, .aload_n 0), (23, .sipush 801), (26, .newarray .int), (28, .putfield 18), (31, .aload_n 0), (32, .sipush 801), (35, .newarray .long), (37, .putfield 21), (40, .return_)],
  [(3, 8, 0, 0, 182), (9, 0, 5, 0, 183), (15, 0, 5, 1, 184), (18, 0, 5, 2, 185), (21, 0, 5, 3, 186)], some 5)
set_option maxRecDepth 100000 in
theorem mk_X5_init : mx_mok (fun a => mt_nm[a]?) mt_X5_init = true := sorry
def mt_X5_append : mM := (yX5_append, cX5_append, (5, none, 2, 5, 0), (1132, 1131, 76, 146),
  [(0, .iload_n 3), (1, .iconst 1), (2, .isub), (3, .istore 4), (5, .iload 4), (7, .ifCond .lt 42), (10, .aload_n 0), (11, .getfield 9), (14, .aload_n 0), (15, .getfield 25), (18, .lload_n 1), (19, .bipush 8), (21, .iload 4), (23, .imul), (24, .lushr), (25, .l2i), (26, .sipush 255), (29, .iand), (30, .invokestatic 29), (33, .aload_n 0), (34, .dup), (35, .getfield 25), (38, .iconst 1), (39, .iadd), (40, .putfield 25), (43, .iinc 4 (-1)), (46, .goto (-41)), (49, .return_)],
  [(9, 0, 5, 0, 183), (25, 0, 5, 4, 187), (29, 5, 113, 3, 1133)], none)
set_option maxRecDepth 100000 in
theorem mk_X5_append : mx_mok (fun a => mt_nm[a]?) mt_X5_append = true := sorry
def mt_X5_cut : mM := (yX5_cut, cX5_cut, (5, none, 0, 5, 0), (651, 650, 17, 146),
  [(0, .iconst 0), (1, .istore_n 1), (2, .iconst 0), (3, .istore_n 2), (4, .iload_n 2), (5, .aload_n 0), (6, .getfield 25), (9, .if_icmp .ge 110), (12, .iload_n 2), (13, .sipush 800), (16, .if_icmp .ge 103), (19, .iload_n 1), (20, .sipush 800), (23, .if_icmp .ge 96), (26, .aload_n 0), (27, .getfield 9), (30, .iload_n 2), (31, .iaload), (32, .istore_n 3), (33, .iconst 1), (34, .istore 4), (36, .iload_n 3), (37, .bipush 32), (39, .if_icmp .eq 72), (42, .iload_n 3), (43, .bipush 10), (45, .if_icmp .eq 66), (48, .iconst 1), (49, .aload_n 0), (50, .iload_n 2), (51, .invokevirtual 33), (54, .invokestatic 37), (57, .istore 4), (59, .aload_n 0), (60, .getfield 18), (63, .iload_n 1), (64, .iload_n 2), (65, .iastore), (66, .aload_n 0), (67, .getfield 21), (70, .iload_n 1), (71, .iload 4), (73, .bipush 8), (75, .if_icmp .gt 13), (78, .aload_n 0), (79, .iload_n 2), (80, .iload 4), (82, .invokevirtual 43), (85, .goto 4), (88, .lconst 0), (89, .lastore), (90, .aload_n 0), (91, .getfield 15), (94, .iload_n 1), (95, .iload_n 3), (96, .iload 4), (98, .aload_n 0), (99, .getfield 21), (102, .iload_n 1), (103, .laload), (104, .invokestatic 47), (107, .iastore), (108, .iinc 1 1), (111, .iload_n 2), (112, .iload 4), (114, .iadd), (115, .istore_n 2), (116, .goto (-112)), (119, .aload_n 0), (120, .getfield 18), (123, .iload_n 1), (124, .aload_n 0), (125, .getfield 25), (128, .iastore), (129, .aload_n 0), (130, .getfield 21), (133, .iload_n 1), (134, .lconst 0), (135, .lastore), (136, .aload_n 0), (137, .getfield 15), (140, .iload_n 1), (141, .iconst 0), (142, .iastore), (143, .aload_n 0), (144, .iconst 0), (145, .putfield 25), (148, .aload_n 0), (149, .iconst (-1)), (150, .putfield 51), (153, .aload_n 0), (154, .iconst 1), (155, .putfield 54), (158, .aload_n 0), (159, .invokevirtual 57), (162, .return_)],
  [(9, 0, 5, 0, 183), (15, 0, 5, 1, 184), (18, 0, 5, 2, 185), (21, 0, 5, 3, 186), (25, 0, 5, 4, 187), (33, 2, 73, 1, 652), (43, 2, 74, 2, 664), (47, 4, 75, 3, 668), (51, 0, 5, 5, 189), (54, 0, 5, 6, 191), (57, 2, 79, 0, 757)], none)
set_option maxRecDepth 100000 in
theorem mk_X5_cut : mx_mok (fun a => mt_nm[a]?) mt_X5_cut = true := sorry
def mt_X5_nameSize : mM := (yX5_nameSize, cX5_nameSize, (3, (some .int), 1, 5, 0), (655, 654, 18, 146),
  [(0, .iload_n 1), (1, .aload_n 0), (2, .getfield 25), (5, .if_icmp .ge 17), (8, .aload_n 0), (9, .getfield 9), (12, .iload_n 1), (13, .invokestatic 60), (16, .invokestatic 64), (19, .ifCond .ne 5), (22, .iconst 0), (23, .ireturn), (24, .iload_n 1), (25, .iconst 1), (26, .iadd), (27, .istore_n 2), (28, .iload_n 2), (29, .aload_n 0), (30, .getfield 25), (33, .if_icmp .ge 23), (36, .aload_n 0), (37, .getfield 9), (40, .iload_n 2), (41, .invokestatic 60), (44, .invokestatic 68), (47, .ifCond .eq 9), (50, .iinc 2 1), (53, .goto (-25)), (56, .iload_n 2), (57, .iload_n 1), (58, .isub), (59, .ireturn)],
  [(9, 0, 5, 0, 183), (25, 0, 5, 4, 187), (60, 5, 111, 2, 656), (64, 4, 76, 1, 657), (68, 4, 77, 1, 660)], none)
set_option maxRecDepth 100000 in
theorem mk_X5_nameSize : mx_mok (fun a => mt_nm[a]?) mt_X5_nameSize = true := sorry
def mt_X5_nameOf : mM := (yX5_nameOf, cX5_nameOf, (6, (some .long), 2, 5, 0), (667, 666, 19, 146),
  [(0, .lconst 0), (1, .lstore_n 3), (2, .iload_n 1), (3, .istore 5), (5, .iload 5), (7, .iload_n 1), (8, .iload_n 2), (9, .iadd), (10, .if_icmp .ge 25), (13, .lload_n 3), (14, .bipush 8), (16, .lshl), (17, .aload_n 0), (18, .getfield 9), (21, .iload 5), (23, .invokestatic 60), (26, .i2l), (27, .lor), (28, .lstore_n 3), (29, .iinc 5 1), (32, .goto (-27)), (35, .lload_n 3), (36, .lreturn)],
  [(9, 0, 5, 0, 183), (60, 5, 111, 2, 656)], none)
set_option maxRecDepth 100000 in
theorem mk_X5_nameOf : mx_mok (fun a => mt_nm[a]?) mt_X5_nameOf = true := sorry
def mt_X5_kindOf : mM := (yX5_kindOf, cX5_kindOf, (4, (some .int), 3, 5, 1), (670, 669, 0, 146),
  [(0, .iload_n 0), (1, .invokestatic 64), (4, .ifCond .ne 19), (7, .ldc 71), (9, .iload_n 0), (10, .i2c), (11, .invokevirtual 73), (14, .ifCond .lt 7), (17, .iload_n 0), (18, .goto 4), (21, .iconst 1), (22, .ireturn), (23, .iload_n 1), (24, .bipush 8), (26, .if_icmp .le 5), (29, .iconst 1), (30, .ireturn), (31, .lload_n 2), (32, .ldc2_w 78), (35, .lcmp), (36, .ifCond .ne 5), (39, .iconst 3), (40, .ireturn), (41, .lload_n 2), (42, .ldc2_w 80), (45, .lcmp), (46, .ifCond .ne 5), (49, .iconst 4), (50, .ireturn), (51, .lload_n 2), (52, .ldc2_w 82), (55, .lcmp), (56, .ifCond .ne 7), (59, .iconst 5), (60, .goto 4), (63, .iconst 2), (64, .ireturn)],
  [(64, 4, 76, 1, 657), (78, 11, 0, 754, 26990), (80, 11, 0, 755, 2003399784), (82, 11, 0, 756, 418263299685)], none)
set_option maxRecDepth 100000 in
theorem mk_X5_kindOf : mx_mok (fun a => mt_nm[a]?) mt_X5_kindOf = true := sorry
def mt_X5_isLetter : mM := (yX5_isLetter, cX5_isLetter, (1, (some .boolean), 1, 5, 1), (659, 658, 0, 146),
  [(0, .iload_n 0), (1, .bipush 65), (3, .if_icmp .lt 9), (6, .iload_n 0), (7, .bipush 90), (9, .if_icmp .le 15), (12, .iload_n 0), (13, .bipush 97), (15, .if_icmp .lt 13), (18, .iload_n 0), (19, .bipush 122), (21, .if_icmp .gt 7), (24, .iconst 1), (25, .goto 4), (28, .iconst 0), (29, .ireturn)],
  [], none)
set_option maxRecDepth 100000 in
theorem mk_X5_isLetter : mx_mok (fun a => mt_nm[a]?) mt_X5_isLetter = true := sorry
def mt_X5_isNameByte : mM := (yX5_isNameByte, cX5_isNameByte, (1, (some .boolean), 1, 5, 1), (662, 661, 0, 146),
  [(0, .iload_n 0), (1, .invokestatic 64), (4, .ifCond .ne 15), (7, .iload_n 0), (8, .bipush 48), (10, .if_icmp .lt 13), (13, .iload_n 0), (14, .bipush 57), (16, .if_icmp .gt 7), (19, .iconst 1), (20, .goto 4), (23, .iconst 0), (24, .ireturn)],
  [(64, 4, 76, 1, 657)], none)
set_option maxRecDepth 100000 in
theorem mk_X5_isNameByte : mx_mok (fun a => mt_nm[a]?) mt_X5_isNameByte = true := sorry
def mt_X5_opensArgs : mM := (yX5_opensArgs, cX5_opensArgs, (1, (some .boolean), 0, 5, 0), (818, 817, 32, 146),
  [(0, .aload_n 0), (1, .getfield 54), (4, .bipush 60), (6, .if_icmp .ne 25), (9, .aload_n 0), (10, .getfield 15), (13, .aload_n 0), (14, .getfield 51), (17, .iconst 1), (18, .iadd), (19, .invokestatic 60), (22, .bipush 61), (24, .if_icmp .eq 7), (27, .iconst 1), (28, .goto 4), (31, .iconst 0), (32, .ireturn)],
  [(15, 0, 5, 1, 184), (51, 0, 5, 5, 189), (54, 0, 5, 6, 191), (60, 5, 111, 2, 656)], none)
set_option maxRecDepth 100000 in
theorem mk_X5_opensArgs : mx_mok (fun a => mt_nm[a]?) mt_X5_opensArgs = true := sorry
def mt_X5_step : mM := (yX5_step, cX5_step, (2, none, 0, 5, 0), (760, 759, 20, 146),
  [(0, .aload_n 0), (1, .getfield 51), (4, .iconst 1), (5, .iadd), (6, .istore_n 1), (7, .aload_n 0), (8, .getfield 54), (11, .ifCond .eq 49), (14, .iload_n 1), (15, .ifCond .lt 45), (18, .iload_n 1), (19, .sipush 800), (22, .if_icmp .gt 38), (25, .aload_n 0), (26, .iload_n 1), (27, .putfield 51), (30, .aload_n 0), (31, .aload_n 0), (32, .getfield 15), (35, .iload_n 1), (36, .iaload), (37, .putfield 54), (40, .aload_n 0), (41, .aload_n 0), (42, .getfield 18), (45, .iload_n 1), (46, .iaload), (47, .putfield 84), (50, .aload_n 0), (51, .aload_n 0), (52, .getfield 21), (55, .iload_n 1), (56, .laload), (57, .putfield 87), (60, .return_)],
  [(15, 0, 5, 1, 184), (18, 0, 5, 2, 185), (21, 0, 5, 3, 186), (51, 0, 5, 5, 189), (54, 0, 5, 6, 191), (84, 0, 5, 7, 192), (87, 0, 5, 8, 195)], none)
set_option maxRecDepth 100000 in
theorem mk_X5_step : mx_mok (fun a => mt_nm[a]?) mt_X5_step = true := sorry
def mt_X6_init : mM := (yX6_init, cX6_init, (2, none, 1, 6, 2), (480, 479, 0, 156),
  [(0, .aload_n 0), (1, .invokespecial 3), (4, .aload_n 0), (5, .sipush 7000), (8, .newarray .int), (10, .putfield 9), (13, .aload_n 0), (14, .sipush 7000), (17, .newarray .int), (19, .putfield 15), (22, .aload_n 0), (23, .sipush 7000), (26, .newarray .int), (28, .putfield 18), (31, .aload_n 0), (32, .sipush 7000), (35, .newarray .int), (37, .putfield 21), (40, .aload_n 0), (41, .sipush 2048), (44, .newarray .int), (46, .putfield 24), (49, .aload_n 0), (50, .sipush 300), (53, .newarray .int), (55, .putfield 27), (58, .aload_n 0), (59, .aload_n 1), (60, .putfield 30), (63, .return_)],
  [(3, 8, 0, 0, 481), (9, 0, 6, 0, 482), (15, 0, 6, 1, 483), (18, 0, 6, 2, 484), (21, 0, 6, 3, 485), (24, 0, 6, 4, 486), (27, 0, 6, 5, 487), (30, 0, 6, 6, 488)], some 6)
set_option maxRecDepth 100000 in
theorem mk_X6_init : mx_mok (fun a => mt_nm[a]?) mt_X6_init = true := sorry
def mt_X6_startOver : mM := (yX6_startOver, cX6_startOver, (2, none, 1, 6, 0), (570, 569, 7, 156),
  [(0, .aload_n 0), (1, .aload_n 1), (2, .putfield 30), (5, .aload_n 0), (6, .iconst 0), (7, .putfield 34), (10, .aload_n 0), (11, .iconst 0), (12, .putfield 38), (15, .aload_n 0), (16, .getfield 24), (19, .iconst (-1)), (20, .invokestatic 41), (23, .return_)],
  [(24, 0, 6, 4, 486), (30, 0, 6, 6, 488), (34, 0, 6, 7, 489), (38, 0, 6, 8, 490), (41, 4, 192, 2, 571)], none)
set_option maxRecDepth 100000 in
theorem mk_X6_startOver : mx_mok (fun a => mt_nm[a]?) mt_X6_startOver = true := sorry
def mt_X6_head : mM := (yX6_head, cX6_head, (2, (some .int), 1, 6, 0), (960, 959, 60, 156),
  [(0, .iload_n 1), (1, .aload_n 0), (2, .getfield 34), (5, .if_icmp .ge 14), (8, .aload_n 0), (9, .getfield 9), (12, .iload_n 1), (13, .invokestatic 47), (16, .goto 4), (19, .iconst (-1)), (20, .ireturn)],
  [(9, 0, 6, 0, 482), (34, 0, 6, 7, 489), (47, 5, 111, 2, 584)], none)
set_option maxRecDepth 100000 in
theorem mk_X6_head : mx_mok (fun a => mt_nm[a]?) mt_X6_head = true := sorry
def mt_X6_part : mM := (yX6_part, cX6_part, (4, (some .int), 2, 6, 0), (975, 974, 63, 156),
  [(0, .iload_n 1), (1, .aload_n 0), (2, .getfield 34), (5, .if_icmp .ge 14), (8, .aload_n 0), (9, .getfield 15), (12, .iload_n 1), (13, .invokestatic 47), (16, .goto 4), (19, .iconst (-1)), (20, .istore_n 3), (21, .iload_n 3), (22, .ifCond .lt 30), (25, .iload_n 2), (26, .ifCond .lt 26), (29, .iload_n 3), (30, .iload_n 2), (31, .iadd), (32, .aload_n 0), (33, .getfield 38), (36, .if_icmp .ge 16), (39, .aload_n 0), (40, .getfield 21), (43, .iload_n 3), (44, .iload_n 2), (45, .iadd), (46, .invokestatic 47), (49, .goto 4), (52, .iconst (-1)), (53, .ireturn)],
  [(15, 0, 6, 1, 483), (21, 0, 6, 3, 485), (34, 0, 6, 7, 489), (38, 0, 6, 8, 490), (47, 5, 111, 2, 584)], none)
set_option maxRecDepth 100000 in
theorem mk_X6_part : mx_mok (fun a => mt_nm[a]?) mt_X6_part = true := sorry
def mt_X6_partsOf : mM := (yX6_partsOf, cX6_partsOf, (2, (some .int), 1, 6, 0), (970, 969, 62, 156),
  [(0, .aload_n 0), (1, .getfield 30), (4, .aload_n 0), (5, .iload_n 1), (6, .invokevirtual 51), (9, .invokevirtual 55), (12, .ireturn)],
  [(30, 0, 6, 6, 488), (51, 2, 82, 1, 971), (55, 3, 63, 1, 580)], none)
set_option maxRecDepth 100000 in
theorem mk_X6_partsOf : mx_mok (fun a => mt_nm[a]?) mt_X6_partsOf = true := sorry
def mt_X6_leaf : mM := (yX6_leaf, cX6_leaf, (2, (some .int), 1, 6, 0), (575, 574, 8, 156),
  [(0, .aload_n 0), (1, .iload_n 1), (2, .sipush 300), (5, .invokevirtual 60), (8, .ireturn)],
  [(60, 2, 87, 2, 576)], none)
set_option maxRecDepth 100000 in
theorem mk_X6_leaf : mx_mok (fun a => mt_nm[a]?) mt_X6_leaf = true := sorry
def mt_X6_put : mM := (yX6_put, cX6_put, (11, (some .int), 6, 6, 0), (606, 605, 14, 156),
  [(0, .sipush 300), (3, .istore 7), (5, .iload_n 2), (6, .iload_n 3), (7, .iadd), (8, .iconst 1), (9, .isub), (10, .istore 8), (12, .iload 8), (14, .iload_n 2), (15, .if_icmp .lt 84), (18, .aload_n 1), (19, .iload 8), (21, .invokestatic 47), (24, .istore 9), (26, .iload 9), (28, .invokestatic 64), (31, .ifCond .eq 24), (34, .aload 4), (36, .iload 5), (38, .iload 9), (40, .iadd), (41, .bipush 32), (43, .isub), (44, .iload 6), (46, .isub), (47, .invokestatic 47), (50, .istore 10), (52, .goto 27), (55, .aload_n 0), (56, .iload 9), (58, .iload 7), (60, .invokevirtual 60), (63, .istore 10), (65, .iload 7), (67, .aload_n 0), (68, .getfield 30), (71, .iload 9), (73, .invokevirtual 55), (76, .iadd), (77, .istore 7), (79, .iinc 7 (-1)), (82, .aload_n 0), (83, .getfield 27), (86, .iload 7), (88, .iload 10), (90, .invokestatic 68), (93, .iinc 8 (-1)), (96, .goto (-84)), (99, .aload_n 0), (100, .getfield 27), (103, .iload 7), (105, .invokestatic 47), (108, .ireturn)],
  [(27, 0, 6, 5, 487), (30, 0, 6, 6, 488), (47, 5, 111, 2, 584), (55, 3, 63, 1, 580), (60, 2, 87, 2, 576), (64, 5, 115, 1, 607), (68, 5, 113, 3, 591)], none)
set_option maxRecDepth 100000 in
theorem mk_X6_put : mx_mok (fun a => mt_nm[a]?) mt_X6_put = true := sorry
def mt_X6_make : mM := (yX6_make, cX6_make, (8, (some .int), 2, 6, 0), (579, 578, 9, 156),
  [(0, .aload_n 0), (1, .getfield 30), (4, .iload_n 1), (5, .invokevirtual 55), (8, .istore_n 3), (9, .iload_n 1), (10, .istore 4), (12, .iconst 0), (13, .istore 5), (15, .iload 5), (17, .iload_n 3), (18, .if_icmp .ge 28), (21, .iload 4), (23, .bipush 31), (25, .imul), (26, .aload_n 0), (27, .getfield 27), (30, .iload_n 2), (31, .iload 5), (33, .iadd), (34, .invokestatic 47), (37, .iadd), (38, .istore 4), (40, .iinc 5 1), (43, .goto (-28)), (46, .iload 4), (48, .iload 4), (50, .bipush 11), (52, .iushr), (53, .ixor), (54, .sipush 2047), (57, .iand), (58, .istore 5), (60, .aload_n 0), (61, .getfield 24), (64, .iload 5), (66, .invokestatic 47), (69, .istore 6), (71, .iconst 0), (72, .istore 7), (74, .iload 7), (76, .sipush 7000), (79, .if_icmp .ge 52), (82, .iload 6), (84, .ifCond .lt 47), (87, .aload_n 0), (88, .getfield 9), (91, .iload 6), (93, .invokestatic 47), (96, .iload_n 1), (97, .if_icmp .ne 17), (100, .aload_n 0), (101, .iload 6), (103, .iload_n 2), (104, .iload_n 3), (105, .invokevirtual 72), (108, .ifCond .eq 6), (111, .iload 6), (113, .ireturn), (114, .aload_n 0), (115, .getfield 18), (118, .iload 6), (120, .invokestatic 47), (123, .istore 6), (125, .iinc 7 1), (128, .goto (-54)), (131, .aload_n 0), (132, .getfield 34), (135, .istore 6), (137, .iload 6), (139, .sipush 7000), (142, .if_icmp .ge 15), (145, .aload_n 0), (146, .getfield 38), (149, .iload_n 3), (150, .iadd), (151, .sipush 7000), (154, .if_icmp .le 5), (157, .iconst (-1)), (158, .ireturn), (159, .aload_n 0), (160, .getfield 9), (163, .iload 6), (165, .iload_n 1), (166, .invokestatic 68), (169, .aload_n 0), (170, .getfield 15), (173, .iload 6), (175, .aload_n 0), (176, .getfield 38), (179, .invokestatic 68), (182, .aload_n 0), (183, .getfield 18), (186, .iload 6), (188, .aload_n 0), (189, .getfield 24), (192, .iload 5), (194, .invokestatic 47), (197, .invokestatic 68), (200, .aload_n 0), (201, .getfield 24), (204, .iload 5), (206, .iload 6), (208, .invokestatic 68), (211, .iconst 0), (212, .istore 7), (214, .iload 7), (216, .iload_n 3), (217, .if_icmp .ge 34), (220, .aload_n 0), (221, .getfield 21), (224, .aload_n 0), (225, .getfield 38), (228, .iload 7), (230, .iadd), (231, .aload_n 0), (232, .getfield 27), (235, .iload_n 2), (236, .iload 7), (238, .iadd), (239, .invokestatic 47), (242, .invokestatic 68), (245, .iinc 7 1), (248, .goto (-34)), (251, .aload_n 0), (252, .dup), (253, .getfield 38), (256, .iload_n 3), (257, .iadd), (258, .putfield 38), (261, .aload_n 0), (262, .dup), (263, .getfield 34), (266, .iconst 1), (267, .iadd), (268, .putfield 34), (271, .iload 6), (273, .ireturn)],
  [(9, 0, 6, 0, 482), (15, 0, 6, 1, 483), (18, 0, 6, 2, 484), (21, 0, 6, 3, 485), (24, 0, 6, 4, 486), (27, 0, 6, 5, 487), (30, 0, 6, 6, 488), (34, 0, 6, 7, 489), (38, 0, 6, 8, 490), (47, 5, 111, 2, 584), (55, 3, 63, 1, 580), (68, 5, 113, 3, 591), (72, 2, 88, 3, 587)], none)
set_option maxRecDepth 100000 in
theorem mk_X6_make : mx_mok (fun a => mt_nm[a]?) mt_X6_make = true := sorry
def mt_X6_hasParts : mM := (yX6_hasParts, cX6_hasParts, (6, (some .boolean), 3, 6, 0), (590, 589, 11, 156),
  [(0, .iload_n 1), (1, .ifCond .lt 19), (4, .iload_n 1), (5, .sipush 7000), (8, .if_icmp .ge 12), (11, .aload_n 0), (12, .getfield 15), (15, .iload_n 1), (16, .iaload), (17, .goto 6), (20, .sipush 7000), (23, .istore 4), (25, .iload_n 2), (26, .ifCond .lt 27), (29, .iload 4), (31, .ifCond .lt 22), (34, .iload_n 2), (35, .iload_n 3), (36, .iadd), (37, .sipush 300), (40, .if_icmp .gt 13), (43, .iload 4), (45, .iload_n 3), (46, .iadd), (47, .sipush 7000), (50, .if_icmp .le 13), (53, .iload_n 3), (54, .ifCond .ne 7), (57, .iconst 1), (58, .goto 4), (61, .iconst 0), (62, .ireturn), (63, .iconst 0), (64, .istore 5), (66, .iload 5), (68, .iload_n 3), (69, .if_icmp .ge 33), (72, .aload_n 0), (73, .getfield 27), (76, .iload_n 2), (77, .iload 5), (79, .iadd), (80, .iaload), (81, .aload_n 0), (82, .getfield 21), (85, .iload 4), (87, .iload 5), (89, .iadd), (90, .iaload), (91, .if_icmp .eq 5), (94, .iconst 0), (95, .ireturn), (96, .iinc 5 1), (99, .goto (-33)), (102, .iconst 1), (103, .ireturn)],
  [(15, 0, 6, 1, 483), (21, 0, 6, 3, 485), (27, 0, 6, 5, 487)], none)
set_option maxRecDepth 100000 in
theorem mk_X6_hasParts : mx_mok (fun a => mt_nm[a]?) mt_X6_hasParts = true := sorry
def mt_X7_init : mM := (yX7_init, cX7_init, (1, none, 0, 7, 2), (221, 220, 0, 147),
  [(0, .aload_n 0), (1, .invokespecial 3), (4, .aload_n 0), (5, .sipush 6400), (8, .newarray .int), (10, .putfield 9), (13, .aload_n 0), (14, .sipush 6400), (17, .newarray .int), (19, .putfield 15), (22, .aload_n 0), (23, .bipush 80), (25, .newarray .int), (27, .putfield 18), (30, .return_)],
  [(3, 8, 0, 0, 222), (9, 0, 7, 0, 223), (15, 0, 7, 1, 225), (18, 0, 7, 2, 226)], some 7)
set_option maxRecDepth 100000 in
theorem mk_X7_init : mx_mok (fun a => mt_nm[a]?) mt_X7_init = true := sorry
def mt_X7_measure : mM := (yX7_measure, cX7_measure, (7, none, 1, 7, 0), (899, 898, 50, 147),
  [(0, .aload_n 0), (1, .getfield 9), (4, .iconst 0), (5, .invokestatic 21), (8, .aload_n 0), (9, .getfield 18), (12, .iconst 0), (13, .invokestatic 21), (16, .aload_n 0), (17, .iconst 0), (18, .putfield 27), (21, .iconst 0), (22, .istore_n 2), (23, .iload_n 2), (24, .aload_n 1), (25, .getfield 31), (28, .if_icmp .ge 84), (31, .aload_n 1), (32, .getfield 37), (35, .iload_n 2), (36, .invokestatic 40), (39, .istore_n 3), (40, .iload_n 2), (41, .iconst 1), (42, .iadd), (43, .istore 4), (45, .iconst 0), (46, .istore 5), (48, .iload_n 3), (49, .invokestatic 44), (52, .ifCond .eq 54), (55, .iload 5), (57, .aload_n 1), (58, .iload_n 3), (59, .invokevirtual 48), (62, .if_icmp .ge 44), (65, .aload_n 1), (66, .iload 4), (68, .invokevirtual 52), (71, .istore 6), (73, .aload_n 0), (74, .aload_n 1), (75, .getfield 37), (78, .iload 4), (80, .iload 6), (82, .aload_n 1), (83, .getfield 55), (86, .iload_n 3), (87, .invokestatic 40), (90, .iload 5), (92, .iadd), (93, .invokevirtual 58), (96, .iload 6), (98, .istore 4), (100, .iinc 5 1), (103, .goto (-55)), (106, .iinc 2 1), (109, .goto (-86)), (112, .aload_n 0), (113, .aload_n 1), (114, .getfield 62), (117, .invokevirtual 65), (120, .aload_n 0), (121, .aload_n 1), (122, .getfield 62), (125, .invokevirtual 69), (128, .return_)],
  [(9, 0, 7, 0, 223), (18, 0, 7, 2, 226), (21, 4, 192, 2, 900), (27, 0, 7, 3, 228), (31, 1, 4, 14, 389), (37, 1, 4, 10, 377), (40, 5, 111, 2, 901), (44, 5, 114, 1, 902), (48, 3, 63, 1, 905), (52, 3, 64, 1, 906), (55, 1, 4, 1, 357), (58, 2, 91, 4, 907), (62, 1, 4, 13, 386), (65, 2, 92, 1, 914), (69, 2, 94, 1, 923)], none)
set_option maxRecDepth 100000 in
theorem mk_X7_measure : mx_mok (fun a => mt_nm[a]?) mt_X7_measure = true := sorry
def mt_X7_addWays : mM := (yX7_addWays, cX7_addWays, (9, none, 4, 7, 0), (910, 909, 51, 147),
  [(0, .iload_n 3), (1, .iload_n 2), (2, .isub), (3, .iconst 1), (4, .if_icmp .le 7), (7, .iconst 2), (8, .goto 4), (11, .iconst 1), (12, .istore 5), (14, .iload_n 2), (15, .istore 6), (17, .iload 6), (19, .iload_n 3), (20, .if_icmp .ge 61), (23, .aload_n 1), (24, .iload 6), (26, .invokestatic 40), (29, .istore 7), (31, .iload 7), (33, .invokestatic 72), (36, .ifCond .eq 39), (39, .iload 7), (41, .bipush 32), (43, .isub), (44, .bipush 80), (46, .imul), (47, .iload 4), (49, .iadd), (50, .istore 8), (52, .aload_n 0), (53, .getfield 9), (56, .iload 8), (58, .iload 5), (60, .aload_n 0), (61, .getfield 9), (64, .iload 8), (66, .invokestatic 40), (69, .invokestatic 75), (72, .invokestatic 81), (75, .iinc 6 1), (78, .goto (-61)), (81, .return_)],
  [(9, 0, 7, 0, 223), (40, 5, 111, 2, 901), (72, 5, 115, 1, 911), (81, 5, 113, 3, 913)], none)
set_option maxRecDepth 100000 in
theorem mk_X7_addWays : mx_mok (fun a => mt_nm[a]?) mt_X7_addWays = true := sorry
def mt_X7_closeReach : mM := (yX7_closeReach, cX7_closeReach, (4, none, 1, 7, 0), (917, 916, 52, 147),
  [(0, .aload_n 0), (1, .getfield 9), (4, .iconst 0), (5, .aload_n 0), (6, .getfield 15), (9, .iconst 0), (10, .aload_n 0), (11, .getfield 15), (14, .arraylength), (15, .invokestatic 85), (18, .iconst 0), (19, .istore_n 2), (20, .iload_n 2), (21, .iload_n 1), (22, .if_icmp .ge 45), (25, .iconst 0), (26, .istore_n 3), (27, .iload_n 3), (28, .iload_n 1), (29, .if_icmp .ge 32), (32, .aload_n 0), (33, .getfield 15), (36, .iload_n 3), (37, .bipush 80), (39, .imul), (40, .iload_n 2), (41, .iadd), (42, .invokestatic 40), (45, .ifCond .le 10), (48, .aload_n 0), (49, .iload_n 3), (50, .iload_n 2), (51, .iload_n 1), (52, .invokevirtual 91), (55, .iinc 3 1), (58, .goto (-31)), (61, .iinc 2 1), (64, .goto (-44)), (67, .return_)],
  [(9, 0, 7, 0, 223), (15, 0, 7, 1, 225), (40, 5, 111, 2, 901), (91, 2, 93, 3, 919)], none)
set_option maxRecDepth 100000 in
theorem mk_X7_closeReach : mx_mok (fun a => mt_nm[a]?) mt_X7_closeReach = true := sorry
def mt_X7_joinReach : mM := (yX7_joinReach, cX7_joinReach, (5, none, 3, 7, 0), (922, 921, 53, 147),
  [(0, .iconst 0), (1, .istore 4), (3, .iload 4), (5, .iload_n 3), (6, .if_icmp .ge 41), (9, .aload_n 0), (10, .getfield 15), (13, .iload_n 2), (14, .bipush 80), (16, .imul), (17, .iload 4), (19, .iadd), (20, .invokestatic 40), (23, .ifCond .le 18), (26, .aload_n 0), (27, .getfield 15), (30, .iload_n 1), (31, .bipush 80), (33, .imul), (34, .iload 4), (36, .iadd), (37, .iconst 1), (38, .invokestatic 81), (41, .iinc 4 1), (44, .goto (-41)), (47, .return_)],
  [(15, 0, 7, 1, 225), (40, 5, 111, 2, 901), (81, 5, 113, 3, 913)], none)
set_option maxRecDepth 100000 in
theorem mk_X7_joinReach : mx_mok (fun a => mt_nm[a]?) mt_X7_joinReach = true := sorry
def mt_X7_markRounds : mM := (yX7_markRounds, cX7_markRounds, (4, none, 1, 7, 0), (926, 925, 54, 147),
  [(0, .iconst 0), (1, .istore_n 2), (2, .iload_n 2), (3, .iload_n 1), (4, .if_icmp .ge 59), (7, .iconst 0), (8, .istore_n 3), (9, .iload_n 3), (10, .iload_n 1), (11, .if_icmp .ge 46), (14, .aload_n 0), (15, .getfield 9), (18, .iload_n 2), (19, .bipush 80), (21, .imul), (22, .iload_n 3), (23, .iadd), (24, .invokestatic 40), (27, .iconst 2), (28, .if_icmp .ne 23), (31, .aload_n 0), (32, .iload_n 3), (33, .iload_n 2), (34, .invokevirtual 95), (37, .ifCond .eq 14), (40, .aload_n 0), (41, .iconst 1), (42, .putfield 27), (45, .aload_n 0), (46, .iload_n 2), (47, .iload_n 1), (48, .invokevirtual 99), (51, .iinc 3 1), (54, .goto (-45)), (57, .iinc 2 1), (60, .goto (-58)), (63, .return_)],
  [(9, 0, 7, 0, 223), (27, 0, 7, 3, 228), (40, 5, 111, 2, 901), (95, 2, 96, 2, 927), (99, 2, 95, 2, 931)], none)
set_option maxRecDepth 100000 in
theorem mk_X7_markRounds : mx_mok (fun a => mt_nm[a]?) mt_X7_markRounds = true := sorry
def mt_X7_markRound : mM := (yX7_markRound, cX7_markRound, (4, none, 2, 7, 0), (934, 933, 56, 147),
  [(0, .iconst 0), (1, .istore_n 3), (2, .iload_n 3), (3, .iload_n 2), (4, .if_icmp .ge 36), (7, .aload_n 0), (8, .iload_n 1), (9, .iload_n 3), (10, .invokevirtual 95), (13, .ifCond .eq 21), (16, .aload_n 0), (17, .iload_n 3), (18, .iload_n 1), (19, .invokevirtual 95), (22, .ifCond .eq 12), (25, .aload_n 0), (26, .getfield 18), (29, .iload_n 3), (30, .iconst 1), (31, .invokestatic 81), (34, .iinc 3 1), (37, .goto (-35)), (40, .return_)],
  [(18, 0, 7, 2, 226), (81, 5, 113, 3, 913), (95, 2, 96, 2, 927)], none)
set_option maxRecDepth 100000 in
theorem mk_X7_markRound : mx_mok (fun a => mt_nm[a]?) mt_X7_markRound = true := sorry
def mt_X7_leads : mM := (yX7_leads, cX7_leads, (3, (some .boolean), 2, 7, 0), (930, 929, 55, 147),
  [(0, .iload_n 1), (1, .iload_n 2), (2, .if_icmp .eq 19), (5, .aload_n 0), (6, .getfield 15), (9, .iload_n 1), (10, .bipush 80), (12, .imul), (13, .iload_n 2), (14, .iadd), (15, .invokestatic 40), (18, .ifCond .le 7), (21, .iconst 1), (22, .goto 4), (25, .iconst 0), (26, .ireturn)],
  [(15, 0, 7, 1, 225), (40, 5, 111, 2, 901)], none)
set_option maxRecDepth 100000 in
theorem mk_X7_leads : mx_mok (fun a => mt_nm[a]?) mt_X7_leads = true := sorry
def mt_X8_init : mM := (yX8_init, cX8_init, (1, none, 0, 8, 2), (173, 172, 0, 145),
  [(0, .aload_n 0), (1, .invokespecial 3), (4, .aload_n 0), (5, .new 9), (8, .dup), (9, .invokespecial 11), (12, .putfield 12), (15, .aload_n 0), (16, .new 16), (19, .dup), (20, .invokespecial 18), (23, .putfield 19), (26, .aload_n 0), (27, .new 23), (30, .dup), (31, .invokespecial 25), (34, .putfield 26), (37, .aload_n 0), (38, .new 30), (41, .dup), (42, .invokespecial 32), (45, .putfield 33), (48, .aload_n 0), (49, .new 30), (52, .dup), (53, .invokespecial 32), (56, .putfield 37), (59, .aload_n 0), (60, .new 40), (63, .dup), (64, .aload_n 0), (65, .getfield 12), (68, .aload_n 0), (69, .getfield 33), (72, .invokespecial 42), (75, .putfield 45), (78, .aload_n 0), (79, .new 49), (82, .dup), (83, .aload_n 0), (84, .getfield 33), (87, .invokespecial 51), (90, .putfield 54), (93, .aload_n 0), (94, .getfield 54), (97, .aload_n 0), (98, .getfield 33), (101, .iconst (-1)), (102, .invokevirtual 58), (105, .return_)],
  [(3, 8, 0, 0, 174), (9, 9, 5, 0, 177), (11, 7, 70, 0, 179), (12, 0, 8, 0, 610), (16, 9, 7, 0, 217), (18, 7, 89, 0, 219), (19, 0, 8, 1, 611), (23, 9, 2, 0, 239), (25, 7, 29, 0, 241), (26, 0, 8, 2, 612), (30, 9, 4, 0, 263), (32, 7, 54, 0, 265), (33, 0, 8, 3, 613), (37, 0, 8, 4, 614), (40, 9, 3, 0, 423), (42, 7, 36, 2, 425), (45, 0, 8, 5, 615), (49, 9, 0, 0, 470), (51, 7, 0, 1, 472), (54, 0, 8, 6, 616), (58, 3, 1, 2, 563)], some 8)
set_option maxRecDepth 100000 in
theorem mk_X8_init : mx_mok (fun a => mt_nm[a]?) mt_X8_init = true := sorry
def mt_X8_feed : mM := (yX8_feed, cX8_feed, (4, (some .int), 2, 8, 0), (1045, 1043, 1044, 145),
  [(0, .iload_n 3), (1, .iconst 1), (2, .if_icmp .lt 9), (5, .iload_n 3), (6, .bipush 8), (8, .if_icmp .le 13), (11, .new 62), (14, .dup), (15, .ldc 64), (17, .invokespecial 66), (20, .athrow), (21, .aload_n 0), (22, .getfield 12), (25, .getfield 69), (28, .iload_n 3), (29, .iadd), (30, .sipush 800), (33, .if_icmp .le 13), (36, .new 73), (39, .dup), (40, .ldc 75), (42, .invokespecial 77), (45, .athrow), (46, .aload_n 0), (47, .getfield 12), (50, .lload_n 1), (51, .iload_n 3), (52, .invokevirtual 78), (55, .aload_n 0), (56, .getfield 12), (59, .getfield 69), (62, .ireturn)],
  [(12, 0, 8, 0, 610), (69, 1, 5, 4, 188), (78, 3, 71, 2, 1129)], none)
set_option maxRecDepth 100000 in
theorem mk_X8_feed : mx_mok (fun a => mt_nm[a]?) mt_X8_feed = true := sorry
def mt_X8_read : mM := (yX8_read, cX8_read, (3, (some .int), 0, 8, 0), (638, 636, 637, 145),
  [(0, .aload_n 0), (1, .getfield 45), (4, .aload_n 0), (5, .getfield 37), (8, .invokevirtual 82), (11, .istore_n 1), (12, .aload_n 0), (13, .aload_n 0), (14, .getfield 45), (17, .getfield 86), (20, .putfield 89), (23, .iload_n 1), (24, .ifCond .ne 14), (27, .bipush (-10)), (29, .aload_n 0), (30, .getfield 45), (33, .getfield 92), (36, .isub), (37, .ireturn), (38, .aload_n 0), (39, .getfield 33), (42, .astore_n 2), (43, .aload_n 0), (44, .aload_n 0), (45, .getfield 37), (48, .putfield 33), (51, .aload_n 0), (52, .aload_n 2), (53, .putfield 37), (56, .aload_n 0), (57, .getfield 19), (60, .aload_n 0), (61, .getfield 33), (64, .invokevirtual 95), (67, .aload_n 0), (68, .getfield 54), (71, .aload_n 0), (72, .getfield 33), (75, .iconst (-1)), (76, .invokevirtual 58), (79, .aload_n 0), (80, .getfield 33), (83, .getfield 98), (86, .ireturn)],
  [(19, 0, 8, 1, 611), (33, 0, 8, 3, 613), (37, 0, 8, 4, 614), (45, 0, 8, 5, 615), (54, 0, 8, 6, 616), (58, 3, 1, 2, 563), (82, 3, 38, 1, 639), (86, 1, 3, 8, 443), (89, 0, 8, 7, 617), (92, 1, 3, 9, 445), (95, 3, 90, 1, 896), (98, 1, 4, 12, 383)], none)
set_option maxRecDepth 100000 in
theorem mk_X8_read : mx_mok (fun a => mt_nm[a]?) mt_X8_read = true := sorry
def mt_X8_fault : mM := (yX8_fault, cX8_fault, (1, (some .int), 0, 8, 0), (939, 937, 938, 145),
  [(0, .aload_n 0), (1, .getfield 89), (4, .ireturn)],
  [(89, 0, 8, 7, 617)], none)
set_option maxRecDepth 100000 in
theorem mk_X8_fault : mx_mok (fun a => mt_nm[a]?) mt_X8_fault = true := sorry
def mt_X8_cls : mM := (yX8_cls, cX8_cls, (3, (some .long), 2, 8, 0), (1141, 1139, 1140, 145),
  [(0, .iload_n 1), (1, .ifCond .lt 14), (4, .iload_n 1), (5, .aload_n 0), (6, .getfield 33), (9, .getfield 98), (12, .if_icmp .lt 13), (15, .new 101), (18, .dup), (19, .ldc 103), (21, .invokespecial 105), (24, .athrow), (25, .iload_n 2), (26, .tableswitch 109 0 4 #[34, 44, 57, 67, 79]), (60, .aload_n 0), (61, .getfield 33), (64, .iload_n 1), (65, .invokevirtual 106), (68, .i2l), (69, .lreturn), (70, .aload_n 0), (71, .getfield 33), (74, .getfield 110), (77, .iload_n 1), (78, .invokestatic 114), (81, .i2l), (82, .lreturn), (83, .aload_n 0), (84, .getfield 33), (87, .iload_n 1), (88, .invokevirtual 118), (91, .i2l), (92, .lreturn), (93, .aload_n 0), (94, .getfield 33), (97, .getfield 121), (100, .iload_n 1), (101, .invokestatic 125), (104, .lreturn), (105, .aload_n 0), (106, .getfield 33), (109, .iload_n 1), (110, .invokevirtual 106), (113, .ifCond .le 18), (116, .aload_n 0), (117, .getfield 33), (120, .getfield 129), (123, .iload_n 1), (124, .invokestatic 114), (127, .i2l), (128, .goto 6), (131, .ldc2_w 132), (134, .lreturn), (135, .new 62), (138, .dup), (139, .ldc 134), (141, .invokespecial 66), (144, .athrow)],
  [(33, 0, 8, 3, 613), (98, 1, 4, 12, 383), (106, 3, 63, 1, 1158), (110, 1, 4, 3, 361), (114, 4, 111, 2, 1159), (118, 3, 67, 1, 1160), (121, 1, 4, 0, 354), (125, 4, 112, 2, 1164), (129, 1, 4, 1, 358), (132, 11, 0, 1165, -1)], none)
set_option maxRecDepth 100000 in
theorem mk_X8_cls : mx_mok (fun a => mt_nm[a]?) mt_X8_cls = true := sorry
def mt_X8_isAbove : mM := (yX8_isAbove, cX8_isAbove, (3, (some .int), 2, 8, 0), (1173, 1171, 1172, 145),
  [(0, .iload_n 1), (1, .ifCond .lt 29), (4, .iload_n 1), (5, .aload_n 0), (6, .getfield 33), (9, .getfield 98), (12, .if_icmp .ge 18), (15, .iload_n 2), (16, .ifCond .lt 14), (19, .iload_n 2), (20, .aload_n 0), (21, .getfield 33), (24, .getfield 98), (27, .if_icmp .lt 13), (30, .new 101), (33, .dup), (34, .ldc 103), (36, .invokespecial 105), (39, .athrow), (40, .aload_n 0), (41, .getfield 33), (44, .iload_n 1), (45, .iload_n 2), (46, .invokevirtual 136), (49, .ifCond .le 7), (52, .iconst 1), (53, .goto 4), (56, .iconst 0), (57, .ireturn)],
  [(33, 0, 8, 3, 613), (98, 1, 4, 12, 383), (136, 3, 65, 2, 1174)], none)
set_option maxRecDepth 100000 in
theorem mk_X8_isAbove : mx_mok (fun a => mt_nm[a]?) mt_X8_isAbove = true := sorry
def mt_X8_parameter : mM := (yX8_parameter, cX8_parameter, (3, (some .long), 2, 8, 0), (1181, 1179, 1180, 145),
  [(0, .iload_n 1), (1, .ifCond .lt 14), (4, .iload_n 1), (5, .aload_n 0), (6, .getfield 33), (9, .getfield 140), (12, .if_icmp .lt 13), (15, .new 101), (18, .dup), (19, .ldc 143), (21, .invokespecial 105), (24, .athrow), (25, .iload_n 2), (26, .tableswitch 81 0 3 #[30, 43, 56, 68]), (56, .aload_n 0), (57, .getfield 33), (60, .getfield 145), (63, .iload_n 1), (64, .invokestatic 114), (67, .i2l), (68, .lreturn), (69, .aload_n 0), (70, .getfield 33), (73, .getfield 148), (76, .iload_n 1), (77, .invokestatic 114), (80, .i2l), (81, .lreturn), (82, .aload_n 0), (83, .getfield 33), (86, .getfield 151), (89, .iload_n 1), (90, .invokestatic 125), (93, .lreturn), (94, .aload_n 0), (95, .getfield 19), (98, .getfield 154), (101, .iload_n 1), (102, .invokestatic 114), (105, .i2l), (106, .lreturn), (107, .new 62), (110, .dup), (111, .ldc 157), (113, .invokespecial 66), (116, .athrow)],
  [(19, 0, 8, 1, 611), (33, 0, 8, 3, 613), (114, 4, 111, 2, 1159), (125, 4, 112, 2, 1164), (140, 1, 4, 13, 387), (145, 1, 4, 6, 367), (148, 1, 4, 7, 370), (151, 1, 4, 5, 365), (154, 1, 7, 2, 227)], none)
set_option maxRecDepth 100000 in
theorem mk_X8_parameter : mx_mok (fun a => mt_nm[a]?) mt_X8_parameter = true := sorry
def mt_X8_way : mM := (yX8_way, cX8_way, (3, (some .int), 2, 8, 0), (1190, 1188, 1189, 145),
  [(0, .iload_n 1), (1, .ifCond .lt 29), (4, .iload_n 1), (5, .aload_n 0), (6, .getfield 33), (9, .getfield 140), (12, .if_icmp .ge 18), (15, .iload_n 2), (16, .ifCond .lt 14), (19, .iload_n 2), (20, .aload_n 0), (21, .getfield 33), (24, .getfield 140), (27, .if_icmp .lt 13), (30, .new 101), (33, .dup), (34, .ldc 143), (36, .invokespecial 105), (39, .athrow), (40, .aload_n 0), (41, .getfield 19), (44, .getfield 159), (47, .iload_n 1), (48, .bipush 80), (50, .imul), (51, .iload_n 2), (52, .iadd), (53, .invokestatic 114), (56, .ireturn)],
  [(19, 0, 8, 1, 611), (33, 0, 8, 3, 613), (114, 4, 111, 2, 1159), (140, 1, 4, 13, 387), (159, 1, 7, 0, 224)], none)
set_option maxRecDepth 100000 in
theorem mk_X8_way : mx_mok (fun a => mt_nm[a]?) mt_X8_way = true := sorry
def mt_X8_ask : mM := (yX8_ask, cX8_ask, (5, (some .int), 1, 8, 0), (1197, 1195, 1196, 145),
  [(0, .iload_n 1), (1, .ifCond .lt 10), (4, .iload_n 1), (5, .sipush 3000), (8, .if_icmp .le 13), (11, .new 62), (14, .dup), (15, .ldc 162), (17, .invokespecial 66), (20, .athrow), (21, .aload_n 0), (22, .getfield 45), (25, .aload_n 0), (26, .getfield 33), (29, .invokevirtual 164), (32, .istore_n 2), (33, .aload_n 0), (34, .aload_n 0), (35, .getfield 45), (38, .getfield 86), (41, .putfield 89), (44, .iload_n 2), (45, .ifCond .ne 14), (48, .bipush (-10)), (50, .aload_n 0), (51, .getfield 45), (54, .getfield 92), (57, .isub), (58, .ireturn), (59, .aload_n 0), (60, .getfield 54), (63, .aload_n 0), (64, .getfield 33), (67, .aload_n 0), (68, .getfield 45), (71, .getfield 167), (74, .invokevirtual 58), (77, .aload_n 0), (78, .getfield 54), (81, .aload_n 0), (82, .getfield 45), (85, .getfield 170), (88, .iconst 0), (89, .aload_n 0), (90, .getfield 45), (93, .getfield 173), (96, .invokevirtual 176), (99, .istore_n 3), (100, .aload_n 0), (101, .getfield 54), (104, .aload_n 0), (105, .getfield 45), (108, .getfield 170), (111, .aload_n 0), (112, .getfield 45), (115, .getfield 173), (118, .aload_n 0), (119, .getfield 45), (122, .getfield 180), (125, .aload_n 0), (126, .getfield 45), (129, .getfield 173), (132, .isub), (133, .invokevirtual 176), (136, .istore 4), (138, .aload_n 0), (139, .getfield 54), (142, .iload_n 1), (143, .putfield 183), (146, .aload_n 0), (147, .getfield 54), (150, .iload_n 3), (151, .iload 4), (153, .iconst 1), (154, .invokevirtual 186), (157, .ireturn)],
  [(33, 0, 8, 3, 613), (45, 0, 8, 5, 615), (54, 0, 8, 6, 616), (58, 3, 1, 2, 563), (86, 1, 3, 8, 443), (89, 0, 8, 7, 617), (92, 1, 3, 9, 445), (164, 3, 39, 1, 1199), (167, 1, 3, 5, 437), (170, 1, 3, 3, 433), (173, 1, 3, 6, 439), (176, 3, 3, 3, 952), (180, 1, 3, 4, 435), (183, 1, 0, 10, 523), (186, 3, 5, 3, 1203)], none)
set_option maxRecDepth 100000 in
theorem mk_X8_ask : mx_mok (fun a => mt_nm[a]?) mt_X8_ask = true := sorry
def mt_X8_told : mM := (yX8_told, cX8_told, (2, (some .int), 1, 8, 0), (1240, 1238, 1239, 145),
  [(0, .iload_n 1), (1, .tableswitch 143 0 9 #[55, 63, 71, 79, 87, 95, 103, 111, 119, 127]), (56, .aload_n 0), (57, .getfield 54), (60, .getfield 190), (63, .ireturn), (64, .aload_n 0), (65, .getfield 54), (68, .getfield 193), (71, .ireturn), (72, .aload_n 0), (73, .getfield 54), (76, .getfield 196), (79, .ireturn), (80, .aload_n 0), (81, .getfield 54), (84, .getfield 199), (87, .ireturn), (88, .aload_n 0), (89, .getfield 33), (92, .getfield 98), (95, .ireturn), (96, .aload_n 0), (97, .getfield 33), (100, .getfield 140), (103, .ireturn), (104, .aload_n 0), (105, .getfield 33), (108, .getfield 202), (111, .ireturn), (112, .aload_n 0), (113, .getfield 12), (116, .getfield 69), (119, .ireturn), (120, .aload_n 0), (121, .getfield 26), (124, .getfield 205), (127, .ireturn), (128, .aload_n 0), (129, .getfield 19), (132, .getfield 206), (135, .ifCond .eq 7), (138, .iconst 1), (139, .goto 4), (142, .iconst 0), (143, .ireturn), (144, .new 62), (147, .dup), (148, .ldc 210), (150, .invokespecial 66), (153, .athrow)],
  [(12, 0, 8, 0, 610), (19, 0, 8, 1, 611), (26, 0, 8, 2, 612), (33, 0, 8, 3, 613), (54, 0, 8, 6, 616), (69, 1, 5, 4, 188), (98, 1, 4, 12, 383), (140, 1, 4, 13, 387), (190, 1, 0, 11, 525), (193, 1, 0, 12, 527), (196, 1, 0, 13, 529), (199, 1, 0, 14, 531), (202, 1, 4, 14, 391), (205, 1, 2, 3, 250), (206, 1, 7, 3, 229)], none)
set_option maxRecDepth 100000 in
theorem mk_X8_told : mx_mok (fun a => mt_nm[a]?) mt_X8_told = true := sorry
def mt_X8_above : mM := (yX8_above, cX8_above, (3, (some .int), 0, 8, 0), (943, 941, 942, 145),
  [(0, .aload_n 0), (1, .getfield 45), (4, .aload_n 0), (5, .getfield 33), (8, .invokevirtual 212), (11, .istore_n 1), (12, .aload_n 0), (13, .aload_n 0), (14, .getfield 45), (17, .getfield 86), (20, .putfield 89), (23, .iload_n 1), (24, .ifCond .ne 14), (27, .bipush (-10)), (29, .aload_n 0), (30, .getfield 45), (33, .getfield 92), (36, .isub), (37, .ireturn), (38, .aload_n 0), (39, .getfield 54), (42, .aload_n 0), (43, .getfield 33), (46, .aload_n 0), (47, .getfield 45), (50, .getfield 167), (53, .invokevirtual 58), (56, .aload_n 0), (57, .getfield 54), (60, .aload_n 0), (61, .getfield 54), (64, .aload_n 0), (65, .getfield 45), (68, .getfield 170), (71, .iconst 0), (72, .aload_n 0), (73, .getfield 45), (76, .getfield 180), (79, .invokevirtual 176), (82, .aload_n 0), (83, .getfield 45), (86, .getfield 215), (89, .invokevirtual 218), (92, .istore_n 2), (93, .iload_n 2), (94, .bipush (-4)), (96, .if_icmp .ne 6), (99, .bipush (-4)), (101, .ireturn), (102, .iload_n 2), (103, .ifCond .ge 7), (106, .iconst 0), (107, .goto 22), (110, .aload_n 0), (111, .getfield 26), (114, .aload_n 0), (115, .getfield 54), (118, .getfield 221), (121, .aload_n 0), (122, .getfield 33), (125, .iload_n 2), (126, .invokevirtual 225), (129, .ireturn)],
  [(26, 0, 8, 2, 612), (33, 0, 8, 3, 613), (45, 0, 8, 5, 615), (54, 0, 8, 6, 616), (58, 3, 1, 2, 563), (86, 1, 3, 8, 443), (89, 0, 8, 7, 617), (92, 1, 3, 9, 445), (167, 1, 3, 5, 437), (170, 1, 3, 3, 433), (176, 3, 3, 3, 952), (180, 1, 3, 4, 435), (212, 3, 40, 1, 944), (215, 1, 3, 7, 441), (218, 3, 4, 2, 953), (221, 1, 0, 0, 511), (225, 3, 30, 3, 999)], none)
set_option maxRecDepth 100000 in
theorem mk_X8_above : mx_mok (fun a => mt_nm[a]?) mt_X8_above = true := sorry
def mt_X8_variable : mM := (yX8_variable, cX8_variable, (4, (some .int), 2, 8, 0), (1248, 1246, 1247, 145),
  [(0, .iload_n 1), (1, .ifCond .lt 14), (4, .iload_n 1), (5, .aload_n 0), (6, .getfield 54), (9, .getfield 196), (12, .if_icmp .lt 13), (15, .new 101), (18, .dup), (19, .ldc 229), (21, .invokespecial 105), (24, .athrow), (25, .iload_n 2), (26, .iconst (-1)), (27, .if_icmp .ne 17), (30, .aload_n 0), (31, .getfield 54), (34, .getfield 231), (37, .iload_n 1), (38, .invokestatic 114), (41, .goto 12), (44, .aload_n 0), (45, .getfield 54), (48, .iload_n 1), (49, .iload_n 2), (50, .invokevirtual 234), (53, .istore_n 3), (54, .iload_n 3), (55, .ifCond .ge 7), (58, .iconst 0), (59, .goto 22), (62, .aload_n 0), (63, .getfield 26), (66, .aload_n 0), (67, .getfield 54), (70, .getfield 221), (73, .aload_n 0), (74, .getfield 33), (77, .iload_n 3), (78, .invokevirtual 225), (81, .ireturn)],
  [(26, 0, 8, 2, 612), (33, 0, 8, 3, 613), (54, 0, 8, 6, 616), (114, 4, 111, 2, 1159), (196, 1, 0, 13, 529), (221, 1, 0, 0, 511), (225, 3, 30, 3, 999), (231, 1, 0, 3, 515), (234, 3, 16, 2, 1250)], none)
set_option maxRecDepth 100000 in
theorem mk_X8_variable : mx_mok (fun a => mt_nm[a]?) mt_X8_variable = true := sorry
def mt_X8_written : mM := (yX8_written, cX8_written, (2, (some .int), 1, 8, 0), (1257, 1255, 1256, 145),
  [(0, .iload_n 1), (1, .ifCond .lt 14), (4, .iload_n 1), (5, .aload_n 0), (6, .getfield 26), (9, .getfield 205), (12, .if_icmp .lt 13), (15, .new 101), (18, .dup), (19, .ldc 237), (21, .invokespecial 105), (24, .athrow), (25, .aload_n 0), (26, .getfield 26), (29, .getfield 239), (32, .iload_n 1), (33, .invokestatic 114), (36, .ireturn)],
  [(26, 0, 8, 2, 612), (114, 4, 111, 2, 1159), (205, 1, 2, 3, 250), (239, 1, 2, 0, 246)], none)
set_option maxRecDepth 100000 in
theorem mk_X8_written : mx_mok (fun a => mt_nm[a]?) mt_X8_written = true := sorry
def mt_X8_clear : mM := (yX8_clear, cX8_clear, (1, none, 0, 8, 0), (1035, 1033, 1034, 145),
  [(0, .aload_n 0), (1, .getfield 12), (4, .iconst 0), (5, .putfield 69), (8, .aload_n 0), (9, .getfield 26), (12, .iconst 0), (13, .putfield 205), (16, .aload_n 0), (17, .iconst 0), (18, .putfield 89), (21, .aload_n 0), (22, .getfield 33), (25, .invokevirtual 242), (28, .aload_n 0), (29, .getfield 19), (32, .aload_n 0), (33, .getfield 33), (36, .invokevirtual 95), (39, .aload_n 0), (40, .getfield 54), (43, .aload_n 0), (44, .getfield 33), (47, .iconst (-1)), (48, .invokevirtual 58), (51, .return_)],
  [(12, 0, 8, 0, 610), (19, 0, 8, 1, 611), (26, 0, 8, 2, 612), (33, 0, 8, 3, 613), (54, 0, 8, 6, 616), (58, 3, 1, 2, 563), (69, 1, 5, 4, 188), (89, 0, 8, 7, 617), (95, 3, 90, 1, 896), (205, 1, 2, 3, 250), (242, 3, 55, 0, 1036)], none)
set_option maxRecDepth 100000 in
theorem mk_X8_clear : mx_mok (fun a => mt_nm[a]?) mt_X8_clear = true := sorry
def mt_X8_at : mM := (yX8_at, cX8_at, (2, (some .int), 2, 8, 1), (586, 585, 0, 145),
  [(0, .iload_n 1), (1, .ifCond .lt 15), (4, .iload_n 1), (5, .aload_n 0), (6, .arraylength), (7, .if_icmp .ge 9), (10, .aload_n 0), (11, .iload_n 1), (12, .iaload), (13, .goto 4), (16, .iconst (-1)), (17, .ireturn)],
  [], none)
set_option maxRecDepth 100000 in
theorem mk_X8_at : mx_mok (fun a => mt_nm[a]?) mt_X8_at = true := sorry
def mt_X8_nameAt : mM := (yX8_nameAt, cX8_nameAt, (2, (some .long), 2, 8, 1), (785, 784, 0, 145),
  [(0, .iload_n 1), (1, .ifCond .lt 15), (4, .iload_n 1), (5, .aload_n 0), (6, .arraylength), (7, .if_icmp .ge 9), (10, .aload_n 0), (11, .iload_n 1), (12, .laload), (13, .goto 4), (16, .lconst 0), (17, .lreturn)],
  [], none)
set_option maxRecDepth 100000 in
theorem mk_X8_nameAt : mx_mok (fun a => mt_nm[a]?) mt_X8_nameAt = true := sorry
def mt_X8_set : mM := (yX8_set, cX8_set, (3, none, 3, 8, 1), (347, 346, 0, 145),
  [(0, .iload_n 1), (1, .ifCond .lt 13), (4, .iload_n 1), (5, .aload_n 0), (6, .arraylength), (7, .if_icmp .ge 7), (10, .aload_n 0), (11, .iload_n 1), (12, .iload_n 2), (13, .iastore), (14, .return_)],
  [], none)
set_option maxRecDepth 100000 in
theorem mk_X8_set : mx_mok (fun a => mt_nm[a]?) mt_X8_set = true := sorry
def mt_X8_isClass : mM := (yX8_isClass, cX8_isClass, (1, (some .boolean), 1, 8, 1), (904, 903, 0, 145),
  [(0, .iload_n 0), (1, .ifCond .lt 13), (4, .iload_n 0), (5, .bipush 21), (7, .if_icmp .ge 7), (10, .iconst 1), (11, .goto 4), (14, .iconst 0), (15, .ireturn)],
  [], none)
set_option maxRecDepth 100000 in
theorem mk_X8_isClass : mx_mok (fun a => mt_nm[a]?) mt_X8_isClass = true := sorry
def mt_X8_isParameter : mM := (yX8_isParameter, cX8_isParameter, (1, (some .boolean), 1, 8, 1), (609, 608, 0, 145),
  [(0, .iload_n 0), (1, .bipush 32), (3, .if_icmp .lt 13), (6, .iload_n 0), (7, .bipush 112), (9, .if_icmp .ge 7), (12, .iconst 1), (13, .goto 4), (16, .iconst 0), (17, .ireturn)],
  [], none)
set_option maxRecDepth 100000 in
theorem mk_X8_isParameter : mx_mok (fun a => mt_nm[a]?) mt_X8_isParameter = true := sorry
def mt_X8_isWild : mM := (yX8_isWild, cX8_isWild, (1, (some .boolean), 1, 8, 1), (978, 977, 0, 145),
  [(0, .iload_n 0), (1, .sipush 200), (4, .if_icmp .lt 14), (7, .iload_n 0), (8, .sipush 202), (11, .if_icmp .gt 7), (14, .iconst 1), (15, .goto 4), (18, .iconst 0), (19, .ireturn)],
  [], none)
set_option maxRecDepth 100000 in
theorem mk_X8_isWild : mx_mok (fun a => mt_nm[a]?) mt_X8_isWild = true := sorry
def mt_J7_fill_53178 : mM := (yJ7_fill_53178, cJ7_fill_53178, (4, none, 2, 0, 1), (310, 309, 0, 151),
  [(0, .iconst 0), (1, .istore_n 2), (2, .aload_n 0), (3, .arraylength), (4, .istore_n 3), (5, .iload_n 2), (6, .iload_n 3), (7, .if_icmp .ge 13), (10, .aload_n 0), (11, .iload_n 2), (12, .iload_n 1), (13, .iastore), (14, .iinc 2 1), (17, .goto (-12)), (20, .return_)],
  [], none)
set_option maxRecDepth 100000 in
theorem mk_J7_fill_53178 : mx_mok (fun a => mt_nm[a]?) mt_J7_fill_53178 = true := sorry
end
section
/-! ### methods, part 4 -/
def mt_X9_init : mM := (yX9_init, cX9_init, (1, none, 0, 9, 2), (1263, 1262, 0, 157),
  [(0, .aload_n 0), (1, .invokespecial 1), (4, .aload_n 0), (5, .sipush 20000), (8, .newarray .int), (10, .putfield 7), (13, .aload_n 0), (14, .sipush 20000), (17, .newarray .int), (19, .putfield 13), (22, .aload_n 0), (23, .sipush 20000), (26, .newarray .int), (28, .putfield 16), (31, .aload_n 0), (32, .ldc 19), (34, .newarray .int), (36, .putfield 20), (39, .aload_n 0), (40, .sipush 20000), (43, .newarray .int), (45, .putfield 23), (48, .aload_n 0), (49, .sipush 20000), (52, .newarray .int), (54, .putfield 26), (57, .aload_n 0), (58, .sipush 2048), (61, .newarray .int), (63, .putfield 29), (66, .aload_n 0), (67, .iconst 4), (68, .newarray .int), (70, .putfield 32), (73, .aload_n 0), (74, .bipush 42), (76, .newarray .long), (78, .putfield 35), (81, .aload_n 0), (82, .bipush 42), (84, .newarray .int), (86, .putfield 39), (89, .aload_n 0), (90, .bipush 42), (92, .newarray .int), (94, .putfield 42), (97, .aload_n 0), (98, .sipush 168), (101, .newarray .int), (103, .putfield 45), (106, .aload_n 0), (107, .bipush 42), (109, .newarray .int), (111, .putfield 48), (114, .aload_n 0), (115, .sipush 882), (118, .newarray .int), (120, .putfield 51), (123, .aload_n 0), (124, .sipush 160), (127, .newarray .long), (129, .putfield 54), (132, .aload_n 0), (133, .sipush 160), (136, .newarray .int), (138, .putfield 57), (141, .aload_n 0), (142, .sipush 320), (145, .newarray .int), (147, .putfield 60), (150, .aload_n 0), (151, .sipush 160), (154, .newarray .int), (156, .putfield 63), (159, .aload_n 0), (160, .sipush 800), (163, .newarray .int), (165, .putfield 66), (168, .aload_n 0), (169, .sipush 6400), (172, .newarray .int), (174, .putfield 69), (177, .aload_n 0), (178, .sipush 6400), (181, .newarray .boolean), (183, .putfield 72), (186, .aload_n 0), (187, .sipush 900), (190, .newarray .int), (192, .putfield 76), (195, .aload_n 0), (196, .sipush 300), (199, .newarray .int), (201, .putfield 79), (204, .aload_n 0), (205, .sipush 300), (208, .newarray .int), (210, .putfield 82), (213, .aload_n 0), (214, .bipush 42), (216, .newarray .int), (218, .putfield 85), (221, .aload_n 0), (222, .bipush 42), (224, .newarray .int), (226, .putfield 88), (229, .aload_n 0), (230, .bipush 42), (232, .newarray .int), (234, .putfield 91), (237, .aload_n 0), (238, .bipush 42), (240, .newarray .int), (242, .putfield 94), (245, .aload_n 0), (246, .bipush 42), (248, .newarray .int), (250, .putfield 97), (253, .aload_n 0), (254, .sipush 1000), (257, .newarray .byte), (259, .putfield 100), (262, .aload_n 0), (263, .sipush 20000), (266, .newarray .int), (268, .putfield 104), (271, .aload_n 0), (272, .sipush 20000), (275, .newarray .int), (277, .putfield 107), (280, .aload_n 0), (281, .sipush 20000), (284, .newarray .int), (286, .putfield 110), (289, .aload_n 0), (290, .bipush 10), (292, .newarray .boolean), (294, .putfield 113), (297, .aload_n 0), (298, .bipush 10), (300, .newarray .int), (302, .putfield 116), (305, .aload_n 0), (306, .bipush 10), (308, .newarray .int), (310, .putfield 119), (313, .aload_n 0), (314, .bipush 40), (316, .newarray .int), (318, .putfield 122), (321, .aload_n 0), (322, .bipush 10), (324, .newarray .int), (326, .putfield 125), (329, .aload_n 0), (330, .sipush 20000), (333, .newarray .int), (335, .putfield 128), (338, .aload_n 0), (339, .sipush 20000), (342, .newarray .int), (344, .putfield 131), (347, .aload_n 0), (348, .iconst 4), (349, .newarray .int), (351, .putfield 134), (354, .aload_n 0), (355, .invokevirtual 137), (358, .return_)],
  [(1, 8, 0, 0, 1264), (7, 0, 9, 0, 1293), (13, 0, 9, 1, 1294), (16, 0, 9, 2, 1295), (19, 10, 0, 1265, 80000), (20, 0, 9, 3, 1296), (23, 0, 9, 4, 1297), (26, 0, 9, 5, 1298), (29, 0, 9, 6, 1299), (32, 0, 9, 9, 1302), (35, 0, 9, 10, 1303), (39, 0, 9, 11, 1304), (42, 0, 9, 12, 1305), (45, 0, 9, 13, 1306), (48, 0, 9, 14, 1307), (51, 0, 9, 15, 1308), (54, 0, 9, 16, 1309), (57, 0, 9, 17, 1310), (60, 0, 9, 18, 1311), (63, 0, 9, 19, 1312), (66, 0, 9, 28, 1321), (69, 0, 9, 39, 1332), (72, 0, 9, 40, 1333), (76, 0, 9, 42, 1335), (79, 0, 9, 43, 1336), (82, 0, 9, 44, 1337), (85, 0, 9, 49, 1342), (88, 0, 9, 50, 1343), (91, 0, 9, 51, 1344), (94, 0, 9, 52, 1345), (97, 0, 9, 53, 1346), (100, 0, 9, 55, 1348), (104, 0, 9, 58, 1351), (107, 0, 9, 59, 1352), (110, 0, 9, 61, 1354), (113, 0, 9, 62, 1355), (116, 0, 9, 63, 1356), (119, 0, 9, 64, 1357), (122, 0, 9, 65, 1358), (125, 0, 9, 66, 1359), (128, 0, 9, 67, 1360), (131, 0, 9, 69, 1362), (134, 0, 9, 73, 1366), (137, 2, 118, 0, 1266)], some 9)
set_option maxRecDepth 100000 in
theorem mk_X9_init : mx_mok (fun a => mt_nm[a]?) mt_X9_init = true := sorry
def mt_X9_anew : mM := (yX9_anew, cX9_anew, (2, none, 0, 9, 0), (1269, 1268, 86, 157),
  [(0, .aload_n 0), (1, .getfield 35), (4, .iconst 0), (5, .ldc2_w 140), (8, .lastore), (9, .aload_n 0), (10, .getfield 39), (13, .iconst 0), (14, .iconst 0), (15, .iastore), (16, .aload_n 0), (17, .getfield 42), (20, .iconst 0), (21, .iconst 0), (22, .iastore), (23, .aload_n 0), (24, .getfield 48), (27, .iconst 0), (28, .iconst 0), (29, .iastore), (30, .aload_n 0), (31, .iconst 1), (32, .putfield 142), (35, .aload_n 0), (36, .iconst 0), (37, .putfield 146), (40, .aload_n 0), (41, .iconst 0), (42, .putfield 149), (45, .aload_n 0), (46, .iconst 0), (47, .putfield 152), (50, .aload_n 0), (51, .iconst 0), (52, .putfield 155), (55, .aload_n 0), (56, .invokevirtual 158), (59, .iconst 0), (60, .istore_n 1), (61, .iload_n 1), (62, .bipush 21), (64, .if_icmp .ge 16), (67, .aload_n 0), (68, .getfield 51), (71, .iload_n 1), (72, .iconst (-1)), (73, .iastore), (74, .iinc 1 1), (77, .goto (-16)), (80, .aload_n 0), (81, .getfield 51), (84, .iconst 0), (85, .aload_n 0), (86, .iconst 0), (87, .iconst 0), (88, .iconst 0), (89, .invokevirtual 161), (92, .iastore), (93, .aload_n 0), (94, .iconst 1), (95, .putfield 165), (98, .aload_n 0), (99, .iconst 0), (100, .putfield 168), (103, .iconst 0), (104, .istore_n 1), (105, .iload_n 1), (106, .sipush 6400), (109, .if_icmp .ge 23), (112, .aload_n 0), (113, .getfield 69), (116, .iload_n 1), (117, .iconst 0), (118, .iastore), (119, .aload_n 0), (120, .getfield 72), (123, .iload_n 1), (124, .iconst 0), (125, .bastore), (126, .iinc 1 1), (129, .goto (-24)), (132, .aload_n 0), (133, .iconst 0), (134, .putfield 172), (137, .aload_n 0), (138, .iconst 0), (139, .putfield 175), (142, .aload_n 0), (143, .invokevirtual 178), (146, .aload_n 0), (147, .iconst 0), (148, .putfield 181), (151, .aload_n 0), (152, .iconst 0), (153, .putfield 184), (156, .return_)],
  [(35, 0, 9, 10, 1303), (39, 0, 9, 11, 1304), (42, 0, 9, 12, 1305), (48, 0, 9, 14, 1307), (51, 0, 9, 15, 1308), (69, 0, 9, 39, 1332), (72, 0, 9, 40, 1333), (140, 11, 0, 1270, 4288121), (142, 0, 9, 20, 1313), (146, 0, 9, 21, 1314), (149, 0, 9, 22, 1315), (152, 0, 9, 8, 1301), (155, 0, 9, 7, 1300), (158, 2, 120, 0, 1271), (161, 2, 123, 3, 1275), (165, 0, 9, 23, 1316), (168, 0, 9, 41, 1334), (172, 0, 9, 29, 1322), (175, 0, 9, 37, 1330), (178, 2, 119, 0, 1289), (181, 0, 9, 56, 1349), (184, 0, 9, 57, 1350)], none)
set_option maxRecDepth 100000 in
theorem mk_X9_anew : mx_mok (fun a => mt_nm[a]?) mt_X9_anew = true := sorry
def mt_X9_forgetAsked : mM := (yX9_forgetAsked, cX9_forgetAsked, (1, none, 0, 9, 0), (1292, 1291, 91, 157),
  [(0, .aload_n 0), (1, .iconst 0), (2, .putfield 187), (5, .aload_n 0), (6, .iconst 0), (7, .putfield 190), (10, .aload_n 0), (11, .iconst 0), (12, .putfield 193), (15, .aload_n 0), (16, .iconst 0), (17, .putfield 196), (20, .return_)],
  [(187, 0, 9, 45, 1338), (190, 0, 9, 46, 1339), (193, 0, 9, 47, 1340), (196, 0, 9, 48, 1341)], none)
set_option maxRecDepth 100000 in
theorem mk_X9_forgetAsked : mx_mok (fun a => mt_nm[a]?) mt_X9_forgetAsked = true := sorry
def mt_X9_clearHeads : mM := (yX9_clearHeads, cX9_clearHeads, (2, none, 0, 9, 0), (1274, 1273, 87, 157),
  [(0, .iconst 0), (1, .istore_n 1), (2, .iload_n 1), (3, .sipush 2048), (6, .if_icmp .ge 16), (9, .aload_n 0), (10, .getfield 29), (13, .iload_n 1), (14, .iconst (-1)), (15, .iastore), (16, .iinc 1 1), (19, .goto (-17)), (22, .return_)],
  [(29, 0, 9, 6, 1299)], none)
set_option maxRecDepth 100000 in
theorem mk_X9_clearHeads : mx_mok (fun a => mt_nm[a]?) mt_X9_clearHeads = true := sorry
def mt_X9_slotOf : mM := (yX9_slotOf, cX9_slotOf, (6, (some .int), 3, 9, 0), (1282, 1281, 89, 157),
  [(0, .iload_n 1), (1, .bipush 31), (3, .imul), (4, .iload_n 2), (5, .iadd), (6, .istore 4), (8, .iconst 0), (9, .istore 5), (11, .iload 5), (13, .iload_n 3), (14, .if_icmp .ge 25), (17, .iload 4), (19, .sipush 131), (22, .imul), (23, .aload_n 0), (24, .getfield 32), (27, .iload 5), (29, .iaload), (30, .iadd), (31, .istore 4), (33, .iinc 5 1), (36, .goto (-25)), (39, .iload 4), (41, .ldc 199), (43, .imul), (44, .bipush 21), (46, .iushr), (47, .ireturn)],
  [(32, 0, 9, 9, 1302), (199, 10, 0, 1283, -1640531535)], none)
set_option maxRecDepth 100000 in
theorem mk_X9_slotOf : mx_mok (fun a => mt_nm[a]?) mt_X9_slotOf = true := sorry
def mt_X9_isLike : mM := (yX9_isLike, cX9_isLike, (7, (some .boolean), 4, 9, 0), (1287, 1286, 90, 157),
  [(0, .aload_n 0), (1, .getfield 7), (4, .iload_n 1), (5, .iaload), (6, .iload_n 2), (7, .if_icmp .ne 28), (10, .aload_n 0), (11, .getfield 13), (14, .iload_n 1), (15, .iaload), (16, .iload_n 3), (17, .if_icmp .ne 18), (20, .aload_n 0), (21, .getfield 16), (24, .iload_n 1), (25, .iaload), (26, .iload 4), (28, .if_icmp .ne 7), (31, .iconst 1), (32, .goto 4), (35, .iconst 0), (36, .istore 5), (38, .iconst 0), (39, .istore 6), (41, .iload 6), (43, .iload 4), (45, .if_icmp .ge 42), (48, .iload 5), (50, .ifCond .eq 37), (53, .aload_n 0), (54, .getfield 20), (57, .iconst 4), (58, .iload_n 1), (59, .imul), (60, .iload 6), (62, .iadd), (63, .iaload), (64, .aload_n 0), (65, .getfield 32), (68, .iload 6), (70, .iaload), (71, .if_icmp .ne 7), (74, .iconst 1), (75, .goto 4), (78, .iconst 0), (79, .istore 5), (81, .iinc 6 1), (84, .goto (-43)), (87, .iload 5), (89, .ireturn)],
  [(7, 0, 9, 0, 1293), (13, 0, 9, 1, 1294), (16, 0, 9, 2, 1295), (20, 0, 9, 3, 1296), (32, 0, 9, 9, 1302)], none)
set_option maxRecDepth 100000 in
theorem mk_X9_isLike : mx_mok (fun a => mt_nm[a]?) mt_X9_isLike = true := sorry
def mt_X9_make : mM := (yX9_make, cX9_make, (7, (some .int), 3, 9, 0), (1278, 1277, 88, 157),
  [(0, .aload_n 0), (1, .iload_n 1), (2, .iload_n 2), (3, .iload_n 3), (4, .invokevirtual 200), (7, .istore 4), (9, .aload_n 0), (10, .getfield 29), (13, .iload 4), (15, .iaload), (16, .istore 5), (18, .iload 5), (20, .ifCond .lt 30), (23, .aload_n 0), (24, .iload 5), (26, .iload_n 1), (27, .iload_n 2), (28, .iload_n 3), (29, .invokevirtual 203), (32, .ifCond .eq 6), (35, .iload 5), (37, .ireturn), (38, .aload_n 0), (39, .getfield 26), (42, .iload 5), (44, .iaload), (45, .istore 5), (47, .goto (-29)), (50, .iconst 1), (51, .istore 5), (53, .iconst 0), (54, .istore 6), (56, .iload 6), (58, .iload_n 3), (59, .if_icmp .ge 47), (62, .aload_n 0), (63, .getfield 20), (66, .iconst 4), (67, .aload_n 0), (68, .getfield 152), (71, .imul), (72, .iload 6), (74, .iadd), (75, .aload_n 0), (76, .getfield 32), (79, .iload 6), (81, .iaload), (82, .iastore), (83, .iload 5), (85, .aload_n 0), (86, .getfield 23), (89, .aload_n 0), (90, .getfield 32), (93, .iload 6), (95, .iaload), (96, .iaload), (97, .iadd), (98, .istore 5), (100, .iinc 6 1), (103, .goto (-47)), (106, .aload_n 0), (107, .getfield 7), (110, .aload_n 0), (111, .getfield 152), (114, .iload_n 1), (115, .iastore), (116, .aload_n 0), (117, .getfield 13), (120, .aload_n 0), (121, .getfield 152), (124, .iload_n 2), (125, .iastore), (126, .aload_n 0), (127, .getfield 16), (130, .aload_n 0), (131, .getfield 152), (134, .iload_n 3), (135, .iastore), (136, .aload_n 0), (137, .getfield 23), (140, .aload_n 0), (141, .getfield 152), (144, .iload 5), (146, .ldc 207), (148, .if_icmp .le 8), (151, .ldc 207), (153, .goto 5), (156, .iload 5), (158, .iastore), (159, .aload_n 0), (160, .getfield 26), (163, .aload_n 0), (164, .getfield 152), (167, .aload_n 0), (168, .getfield 29), (171, .iload 4), (173, .iaload), (174, .iastore), (175, .aload_n 0), (176, .getfield 29), (179, .iload 4), (181, .aload_n 0), (182, .getfield 152), (185, .iastore), (186, .aload_n 0), (187, .dup), (188, .getfield 152), (191, .iconst 1), (192, .iadd), (193, .putfield 152), (196, .aload_n 0), (197, .getfield 152), (200, .iconst 1), (201, .isub), (202, .ireturn)],
  [(7, 0, 9, 0, 1293), (13, 0, 9, 1, 1294), (16, 0, 9, 2, 1295), (20, 0, 9, 3, 1296), (23, 0, 9, 4, 1297), (26, 0, 9, 5, 1298), (29, 0, 9, 6, 1299), (32, 0, 9, 9, 1302), (152, 0, 9, 8, 1301), (200, 2, 121, 3, 1279), (203, 2, 122, 4, 1284), (207, 10, 0, 1288, 100000)], none)
set_option maxRecDepth 100000 in
theorem mk_X9_make : mx_mok (fun a => mt_nm[a]?) mt_X9_make = true := sorry
def mt_X9_chainAgain : mM := (yX9_chainAgain, cX9_chainAgain, (5, none, 2, 9, 0), (1630, 1629, 114, 157),
  [(0, .aload_n 0), (1, .invokevirtual 158), (4, .aload_n 0), (5, .iload_n 1), (6, .putfield 155), (9, .aload_n 0), (10, .iload_n 2), (11, .putfield 152), (14, .iload_n 1), (15, .istore_n 3), (16, .iload_n 3), (17, .iload_n 2), (18, .if_icmp .ge 92), (21, .iconst 0), (22, .istore 4), (24, .iload 4), (26, .aload_n 0), (27, .getfield 16), (30, .iload_n 3), (31, .iaload), (32, .if_icmp .ge 27), (35, .aload_n 0), (36, .getfield 32), (39, .iload 4), (41, .aload_n 0), (42, .getfield 20), (45, .iconst 4), (46, .iload_n 3), (47, .imul), (48, .iload 4), (50, .iadd), (51, .iaload), (52, .iastore), (53, .iinc 4 1), (56, .goto (-32)), (59, .aload_n 0), (60, .aload_n 0), (61, .getfield 7), (64, .iload_n 3), (65, .iaload), (66, .aload_n 0), (67, .getfield 13), (70, .iload_n 3), (71, .iaload), (72, .aload_n 0), (73, .getfield 16), (76, .iload_n 3), (77, .iaload), (78, .invokevirtual 200), (81, .istore 4), (83, .aload_n 0), (84, .getfield 26), (87, .iload_n 3), (88, .aload_n 0), (89, .getfield 29), (92, .iload 4), (94, .iaload), (95, .iastore), (96, .aload_n 0), (97, .getfield 29), (100, .iload 4), (102, .iload_n 3), (103, .iastore), (104, .iinc 3 1), (107, .goto (-91)), (110, .return_)],
  [(7, 0, 9, 0, 1293), (13, 0, 9, 1, 1294), (16, 0, 9, 2, 1295), (20, 0, 9, 3, 1296), (26, 0, 9, 5, 1298), (29, 0, 9, 6, 1299), (32, 0, 9, 9, 1302), (152, 0, 9, 8, 1301), (155, 0, 9, 7, 1300), (158, 2, 120, 0, 1271), (200, 2, 121, 3, 1279)], none)
set_option maxRecDepth 100000 in
theorem mk_X9_chainAgain : mx_mok (fun a => mt_nm[a]?) mt_X9_chainAgain = true := sorry
def mt_X9_substitute : mM := (yX9_substitute, cX9_substitute, (9, (some .int), 4, 9, 0), (1622, 1621, 112, 157),
  [(0, .aload_n 0), (1, .dup), (2, .getfield 208), (5, .iconst 1), (6, .iadd), (7, .putfield 208), (10, .iconst 0), (11, .istore 5), (13, .aload_n 0), (14, .getfield 110), (17, .iload 5), (19, .iinc 5 1), (22, .iload_n 1), (23, .iastore), (24, .iload 5), (26, .ifCond .le 154), (29, .aload_n 0), (30, .getfield 110), (33, .iload 5), (35, .iconst 1), (36, .isub), (37, .iaload), (38, .istore 6), (40, .iconst 1), (41, .istore 7), (43, .aload_n 0), (44, .getfield 107), (47, .iload 6), (49, .iaload), (50, .aload_n 0), (51, .getfield 208), (54, .if_icmp .eq 73), (57, .iconst 0), (58, .istore 8), (60, .iload 8), (62, .aload_n 0), (63, .getfield 16), (66, .iload 6), (68, .iaload), (69, .if_icmp .ge 58), (72, .aload_n 0), (73, .getfield 107), (76, .aload_n 0), (77, .getfield 20), (80, .iconst 4), (81, .iload 6), (83, .imul), (84, .iload 8), (86, .iadd), (87, .iaload), (88, .iaload), (89, .aload_n 0), (90, .getfield 208), (93, .if_icmp .eq 28), (96, .aload_n 0), (97, .getfield 110), (100, .iload 5), (102, .iinc 5 1), (105, .aload_n 0), (106, .getfield 20), (109, .iconst 4), (110, .iload 6), (112, .imul), (113, .iload 8), (115, .iadd), (116, .iaload), (117, .iastore), (118, .iconst 0), (119, .istore 7), (121, .iinc 8 1), (124, .goto (-64)), (127, .iload 7), (129, .ifCond .eq 48), (132, .iinc 5 (-1)), (135, .aload_n 0), (136, .getfield 107), (139, .iload 6), (141, .iaload), (142, .aload_n 0), (143, .getfield 208), (146, .if_icmp .eq 31), (149, .aload_n 0), (150, .getfield 104), (153, .iload 6), (155, .aload_n 0), (156, .iload 6), (158, .iload_n 2), (159, .iload_n 3), (160, .iload 4), (162, .invokevirtual 211), (165, .iastore), (166, .aload_n 0), (167, .getfield 107), (170, .iload 6), (172, .aload_n 0), (173, .getfield 208), (176, .iastore), (177, .goto (-153)), (180, .aload_n 0), (181, .getfield 104), (184, .iload_n 1), (185, .iaload), (186, .ireturn)],
  [(16, 0, 9, 2, 1295), (20, 0, 9, 3, 1296), (104, 0, 9, 58, 1351), (107, 0, 9, 59, 1352), (110, 0, 9, 61, 1354), (208, 0, 9, 60, 1353), (211, 2, 126, 4, 1623)], none)
set_option maxRecDepth 100000 in
theorem mk_X9_substitute : mx_mok (fun a => mt_nm[a]?) mt_X9_substitute = true := sorry
def mt_X9_substituted : mM := (yX9_substituted, cX9_substituted, (6, (some .int), 4, 9, 0), (1626, 1625, 113, 157),
  [(0, .aload_n 0), (1, .getfield 7), (4, .iload_n 1), (5, .iaload), (6, .iconst 1), (7, .if_icmp .ne 41), (10, .aload_n 0), (11, .getfield 13), (14, .iload_n 1), (15, .iaload), (16, .iload_n 2), (17, .isub), (18, .istore 5), (20, .iload 5), (22, .ifCond .lt 24), (25, .iload 5), (27, .iload_n 3), (28, .if_icmp .ge 18), (31, .aload_n 0), (32, .getfield 20), (35, .iconst 4), (36, .iload 4), (38, .imul), (39, .iload 5), (41, .iadd), (42, .iaload), (43, .goto 4), (46, .iload_n 1), (47, .ireturn), (48, .aload_n 0), (49, .getfield 16), (52, .iload_n 1), (53, .iaload), (54, .ifCond .ne 5), (57, .iload_n 1), (58, .ireturn), (59, .iconst 0), (60, .istore 5), (62, .iload 5), (64, .aload_n 0), (65, .getfield 16), (68, .iload_n 1), (69, .iaload), (70, .if_icmp .ge 32), (73, .aload_n 0), (74, .getfield 32), (77, .iload 5), (79, .aload_n 0), (80, .getfield 104), (83, .aload_n 0), (84, .getfield 20), (87, .iconst 4), (88, .iload_n 1), (89, .imul), (90, .iload 5), (92, .iadd), (93, .iaload), (94, .iaload), (95, .iastore), (96, .iinc 5 1), (99, .goto (-37)), (102, .aload_n 0), (103, .aload_n 0), (104, .getfield 7), (107, .iload_n 1), (108, .iaload), (109, .aload_n 0), (110, .getfield 13), (113, .iload_n 1), (114, .iaload), (115, .aload_n 0), (116, .getfield 16), (119, .iload_n 1), (120, .iaload), (121, .invokevirtual 161), (124, .ireturn)],
  [(7, 0, 9, 0, 1293), (13, 0, 9, 1, 1294), (16, 0, 9, 2, 1295), (20, 0, 9, 3, 1296), (32, 0, 9, 9, 1302), (104, 0, 9, 58, 1351), (161, 2, 123, 3, 1275)], none)
set_option maxRecDepth 100000 in
theorem mk_X9_substituted : mx_mok (fun a => mt_nm[a]?) mt_X9_substituted = true := sorry
def mt_X9_isLetter : mM := (yX9_isLetter, cX9_isLetter, (1, (some .boolean), 1, 9, 1), (1540, 1539, 0, 157),
  [(0, .iload_n 0), (1, .bipush 97), (3, .if_icmp .lt 9), (6, .iload_n 0), (7, .bipush 122), (9, .if_icmp .le 15), (12, .iload_n 0), (13, .bipush 65), (15, .if_icmp .lt 13), (18, .iload_n 0), (19, .bipush 90), (21, .if_icmp .gt 7), (24, .iconst 1), (25, .goto 4), (28, .iconst 0), (29, .ireturn)],
  [], none)
set_option maxRecDepth 100000 in
theorem mk_X9_isLetter : mx_mok (fun a => mt_nm[a]?) mt_X9_isLetter = true := sorry
def mt_X9_isPart : mM := (yX9_isPart, cX9_isPart, (2, (some .boolean), 1, 9, 0), (1544, 1543, 94, 157),
  [(0, .iload_n 1), (1, .aload_n 0), (2, .getfield 215), (5, .if_icmp .ge 41), (8, .aload_n 0), (9, .getfield 66), (12, .iload_n 1), (13, .iaload), (14, .invokestatic 218), (17, .ifCond .ne 25), (20, .aload_n 0), (21, .getfield 66), (24, .iload_n 1), (25, .iaload), (26, .bipush 48), (28, .if_icmp .lt 18), (31, .aload_n 0), (32, .getfield 66), (35, .iload_n 1), (36, .iaload), (37, .bipush 57), (39, .if_icmp .gt 7), (42, .iconst 1), (43, .goto 4), (46, .iconst 0), (47, .ireturn)],
  [(66, 0, 9, 28, 1321), (215, 0, 9, 30, 1323), (218, 4, 127, 1, 1538)], none)
set_option maxRecDepth 100000 in
theorem mk_X9_isPart : mx_mok (fun a => mt_nm[a]?) mt_X9_isPart = true := sorry
def mt_X9_isSign : mM := (yX9_isSign, cX9_isSign, (1, (some .boolean), 1, 9, 1), (1554, 1553, 0, 157),
  [(0, .iload_n 0), (1, .bipush 60), (3, .if_icmp .eq 51), (6, .iload_n 0), (7, .bipush 62), (9, .if_icmp .eq 45), (12, .iload_n 0), (13, .bipush 44), (15, .if_icmp .eq 39), (18, .iload_n 0), (19, .bipush 58), (21, .if_icmp .eq 33), (24, .iload_n 0), (25, .bipush 38), (27, .if_icmp .eq 27), (30, .iload_n 0), (31, .bipush 63), (33, .if_icmp .eq 21), (36, .iload_n 0), (37, .bipush 94), (39, .if_icmp .eq 15), (42, .iload_n 0), (43, .bipush 59), (45, .if_icmp .eq 9), (48, .iload_n 0), (49, .bipush 61), (51, .if_icmp .ne 7), (54, .iconst 1), (55, .goto 4), (58, .iconst 0), (59, .ireturn)],
  [], none)
set_option maxRecDepth 100000 in
theorem mk_X9_isSign : mx_mok (fun a => mt_nm[a]?) mt_X9_isSign = true := sorry
def mt_X9_nameAt : mM := (yX9_nameAt, cX9_nameAt, (6, (some .long), 2, 9, 0), (1548, 1547, 95, 157),
  [(0, .lconst 0), (1, .lstore_n 3), (2, .iconst 0), (3, .istore 5), (5, .iload 5), (7, .iload_n 2), (8, .if_icmp .ge 25), (11, .lload_n 3), (12, .bipush 8), (14, .lshl), (15, .aload_n 0), (16, .getfield 66), (19, .iload_n 1), (20, .iload 5), (22, .iadd), (23, .iaload), (24, .i2l), (25, .lor), (26, .lstore_n 3), (27, .iinc 5 1), (30, .goto (-25)), (33, .lload_n 3), (34, .lreturn)],
  [(66, 0, 9, 28, 1321)], none)
set_option maxRecDepth 100000 in
theorem mk_X9_nameAt : mx_mok (fun a => mt_nm[a]?) mt_X9_nameAt = true := sorry
def mt_X9_pass : mM := (yX9_pass, cX9_pass, (4, none, 0, 9, 0), (1537, 1536, 93, 157),
  [(0, .aload_n 0), (1, .getfield 222), (4, .aload_n 0), (5, .getfield 215), (8, .if_icmp .ge 44), (11, .aload_n 0), (12, .getfield 66), (15, .aload_n 0), (16, .getfield 222), (19, .iaload), (20, .bipush 32), (22, .if_icmp .eq 17), (25, .aload_n 0), (26, .getfield 66), (29, .aload_n 0), (30, .getfield 222), (33, .iaload), (34, .bipush 10), (36, .if_icmp .ne 16), (39, .aload_n 0), (40, .dup), (41, .getfield 222), (44, .iconst 1), (45, .iadd), (46, .putfield 222), (49, .goto (-49)), (52, .aload_n 0), (53, .aload_n 0), (54, .getfield 222), (57, .putfield 225), (60, .aload_n 0), (61, .iconst 0), (62, .putfield 228), (65, .aload_n 0), (66, .getfield 222), (69, .aload_n 0), (70, .getfield 215), (73, .if_icmp .ne 11), (76, .aload_n 0), (77, .sipush 256), (80, .putfield 231), (83, .return_), (84, .aload_n 0), (85, .getfield 66), (88, .aload_n 0), (89, .getfield 222), (92, .iaload), (93, .istore_n 1), (94, .iload_n 1), (95, .invokestatic 218), (98, .ifCond .eq 125), (101, .aload_n 0), (102, .aload_n 0), (103, .getfield 222), (106, .aload_n 0), (107, .getfield 228), (110, .iadd), (111, .invokevirtual 234), (114, .ifCond .eq 16), (117, .aload_n 0), (118, .dup), (119, .getfield 228), (122, .iconst 1), (123, .iadd), (124, .putfield 228), (127, .goto (-26)), (130, .aload_n 0), (131, .getfield 228), (134, .bipush 8), (136, .if_icmp .le 7), (139, .lconst 0), (140, .goto 15), (143, .aload_n 0), (144, .aload_n 0), (145, .getfield 222), (148, .aload_n 0), (149, .getfield 228), (152, .invokevirtual 237), (155, .lstore_n 2), (156, .aload_n 0), (157, .aload_n 0), (158, .getfield 228), (161, .bipush 8), (163, .if_icmp .le 9), (166, .sipush 261), (169, .goto 48), (172, .lload_n 2), (173, .ldc2_w 241), (176, .lcmp), (177, .ifCond .ne 9), (180, .sipush 258), (183, .goto 34), (186, .lload_n 2), (187, .ldc2_w 243), (190, .lcmp), (191, .ifCond .ne 9), (194, .sipush 259), (197, .goto 20), (200, .lload_n 2), (201, .ldc2_w 245), (204, .lcmp), (205, .ifCond .ne 9), (208, .sipush 260), (211, .goto 6), (214, .sipush 257), (217, .putfield 231), (220, .goto 26), (223, .aload_n 0), (224, .iconst 1), (225, .putfield 228), (228, .aload_n 0), (229, .iload_n 1), (230, .invokestatic 247), (233, .ifCond .eq 7), (236, .iload_n 1), (237, .goto 6), (240, .sipush 261), (243, .putfield 231), (246, .aload_n 0), (247, .dup), (248, .getfield 222), (251, .aload_n 0), (252, .getfield 228), (255, .iadd), (256, .putfield 222), (259, .return_)],
  [(66, 0, 9, 28, 1321), (215, 0, 9, 30, 1323), (218, 4, 127, 1, 1538), (222, 0, 9, 31, 1324), (225, 0, 9, 33, 1326), (228, 0, 9, 34, 1327), (231, 0, 9, 32, 1325), (234, 2, 128, 1, 1541), (237, 2, 130, 2, 1545), (241, 11, 0, 1549, 26990), (243, 11, 0, 1550, 2003399784), (245, 11, 0, 1551, 418263299685), (247, 4, 129, 1, 1552)], none)
set_option maxRecDepth 100000 in
theorem mk_X9_pass : mx_mok (fun a => mt_nm[a]?) mt_X9_pass = true := sorry
def mt_X9_isBefore : mM := (yX9_isBefore, cX9_isBefore, (3, (some .boolean), 1, 9, 0), (1598, 1597, 106, 157),
  [(0, .aload_n 0), (1, .getfield 222), (4, .istore_n 2), (5, .iload_n 2), (6, .aload_n 0), (7, .getfield 215), (10, .if_icmp .ge 31), (13, .aload_n 0), (14, .getfield 66), (17, .iload_n 2), (18, .iaload), (19, .bipush 32), (21, .if_icmp .eq 14), (24, .aload_n 0), (25, .getfield 66), (28, .iload_n 2), (29, .iaload), (30, .bipush 10), (32, .if_icmp .ne 9), (35, .iinc 2 1), (38, .goto (-33)), (41, .iload_n 2), (42, .aload_n 0), (43, .getfield 215), (46, .if_icmp .ge 17), (49, .aload_n 0), (50, .getfield 66), (53, .iload_n 2), (54, .iaload), (55, .iload_n 1), (56, .if_icmp .ne 7), (59, .iconst 1), (60, .goto 4), (63, .iconst 0), (64, .ireturn)],
  [(66, 0, 9, 28, 1321), (215, 0, 9, 30, 1323), (222, 0, 9, 31, 1324)], none)
set_option maxRecDepth 100000 in
theorem mk_X9_isBefore : mx_mok (fun a => mt_nm[a]?) mt_X9_isBefore = true := sorry
def mt_X9_fail : mM := (yX9_fail, cX9_fail, (2, (some .boolean), 1, 9, 0), (1566, 1565, 98, 157),
  [(0, .aload_n 0), (1, .getfield 250), (4, .ifCond .ne 30), (7, .aload_n 0), (8, .aload_n 0), (9, .getfield 231), (12, .sipush 261), (15, .if_icmp .ne 7), (18, .iconst 1), (19, .goto 4), (22, .iload_n 1), (23, .putfield 250), (26, .aload_n 0), (27, .aload_n 0), (28, .getfield 225), (31, .putfield 253), (34, .iconst 0), (35, .ireturn)],
  [(225, 0, 9, 33, 1326), (231, 0, 9, 32, 1325), (250, 0, 9, 35, 1328), (253, 0, 9, 36, 1329)], none)
set_option maxRecDepth 100000 in
theorem mk_X9_fail : mx_mok (fun a => mt_nm[a]?) mt_X9_fail = true := sorry
def mt_X9_want : mM := (yX9_want, cX9_want, (2, (some .boolean), 1, 9, 0), (1582, 1581, 102, 157),
  [(0, .aload_n 0), (1, .getfield 231), (4, .iload_n 1), (5, .if_icmp .eq 9), (8, .aload_n 0), (9, .iconst 2), (10, .invokevirtual 256), (13, .ireturn), (14, .aload_n 0), (15, .invokevirtual 259), (18, .iconst 1), (19, .ireturn)],
  [(231, 0, 9, 32, 1325), (256, 2, 133, 1, 1563), (259, 2, 131, 0, 1534)], none)
set_option maxRecDepth 100000 in
theorem mk_X9_want : mx_mok (fun a => mt_nm[a]?) mt_X9_want = true := sorry
def mt_X9_name : mM := (yX9_name, cX9_name, (1, (some .long), 0, 9, 0), (1570, 1569, 99, 157),
  [(0, .aload_n 0), (1, .aload_n 0), (2, .getfield 225), (5, .aload_n 0), (6, .getfield 228), (9, .invokevirtual 237), (12, .lreturn)],
  [(225, 0, 9, 33, 1326), (228, 0, 9, 34, 1327), (237, 2, 130, 2, 1545)], none)
set_option maxRecDepth 100000 in
theorem mk_X9_name : mx_mok (fun a => mt_nm[a]?) mt_X9_name = true := sorry
def mt_X9_findClass : mM := (yX9_findClass, cX9_findClass, (4, (some .int), 1, 9, 0), (1574, 1573, 100, 157),
  [(0, .iconst 0), (1, .istore_n 3), (2, .iload_n 3), (3, .aload_n 0), (4, .getfield 262), (7, .if_icmp .ge 25), (10, .aload_n 0), (11, .getfield 35), (14, .aload_n 0), (15, .getfield 265), (18, .iload_n 3), (19, .iadd), (20, .laload), (21, .lload_n 1), (22, .lcmp), (23, .ifCond .eq 9), (26, .iinc 3 1), (29, .goto (-27)), (32, .iload_n 3), (33, .aload_n 0), (34, .getfield 262), (37, .if_icmp .ge 7), (40, .iload_n 3), (41, .goto 4), (44, .iconst (-1)), (45, .ireturn)],
  [(35, 0, 9, 10, 1303), (262, 0, 9, 26, 1319), (265, 0, 9, 24, 1317)], none)
set_option maxRecDepth 100000 in
theorem mk_X9_findClass : mx_mok (fun a => mt_nm[a]?) mt_X9_findClass = true := sorry
def mt_X9_findParam : mM := (yX9_findParam, cX9_findParam, (5, (some .int), 2, 9, 0), (1578, 1577, 101, 157),
  [(0, .iload_n 1), (1, .ifCond .ge 5), (4, .iconst (-1)), (5, .ireturn), (6, .iconst 0), (7, .istore 4), (9, .iload 4), (11, .aload_n 0), (12, .getfield 42), (15, .aload_n 0), (16, .getfield 265), (19, .iload_n 1), (20, .iadd), (21, .iaload), (22, .if_icmp .ge 38), (25, .aload_n 0), (26, .getfield 54), (29, .aload_n 0), (30, .getfield 268), (33, .aload_n 0), (34, .getfield 39), (37, .aload_n 0), (38, .getfield 265), (41, .iload_n 1), (42, .iadd), (43, .iaload), (44, .iadd), (45, .iload 4), (47, .iadd), (48, .laload), (49, .lload_n 2), (50, .lcmp), (51, .ifCond .eq 9), (54, .iinc 4 1), (57, .goto (-48)), (60, .iload 4), (62, .aload_n 0), (63, .getfield 42), (66, .aload_n 0), (67, .getfield 265), (70, .iload_n 1), (71, .iadd), (72, .iaload), (73, .if_icmp .ge 20), (76, .aload_n 0), (77, .getfield 39), (80, .aload_n 0), (81, .getfield 265), (84, .iload_n 1), (85, .iadd), (86, .iaload), (87, .iload 4), (89, .iadd), (90, .goto 4), (93, .iconst (-1)), (94, .ireturn)],
  [(39, 0, 9, 11, 1304), (42, 0, 9, 12, 1305), (54, 0, 9, 16, 1309), (265, 0, 9, 24, 1317), (268, 0, 9, 25, 1318)], none)
set_option maxRecDepth 100000 in
theorem mk_X9_findParam : mx_mok (fun a => mt_nm[a]?) mt_X9_findParam = true := sorry
def mt_X9_mayStandBehind : mM := (yX9_mayStandBehind, cX9_mayStandBehind, (3, (some .boolean), 2, 9, 0), (1606, 1605, 108, 157),
  [(0, .iload_n 1), (1, .ifCond .le 27), (4, .aload_n 0), (5, .getfield 231), (8, .bipush 44), (10, .if_icmp .eq 12), (13, .aload_n 0), (14, .getfield 231), (17, .bipush 62), (19, .if_icmp .ne 7), (22, .iconst 1), (23, .goto 4), (26, .iconst 0), (27, .ireturn), (28, .iload_n 2), (29, .tableswitch 128 0 3 #[31, 73, 97, 112]), (60, .aload_n 0), (61, .getfield 231), (64, .bipush 38), (66, .if_icmp .eq 30), (69, .aload_n 0), (70, .getfield 231), (73, .bipush 44), (75, .if_icmp .eq 21), (78, .aload_n 0), (79, .getfield 231), (82, .bipush 58), (84, .if_icmp .eq 12), (87, .aload_n 0), (88, .getfield 231), (91, .bipush 59), (93, .if_icmp .ne 7), (96, .iconst 1), (97, .goto 4), (100, .iconst 0), (101, .ireturn), (102, .aload_n 0), (103, .getfield 231), (106, .bipush 44), (108, .if_icmp .eq 12), (111, .aload_n 0), (112, .getfield 231), (115, .bipush 59), (117, .if_icmp .ne 7), (120, .iconst 1), (121, .goto 4), (124, .iconst 0), (125, .ireturn), (126, .aload_n 0), (127, .getfield 231), (130, .bipush 60), (132, .if_icmp .ne 7), (135, .iconst 1), (136, .goto 4), (139, .iconst 0), (140, .ireturn), (141, .aload_n 0), (142, .getfield 231), (145, .sipush 256), (148, .if_icmp .ne 7), (151, .iconst 1), (152, .goto 4), (155, .iconst 0), (156, .ireturn), (157, .aload_n 0), (158, .getfield 231), (161, .sipush 260), (164, .if_icmp .ne 7), (167, .iconst 1), (168, .goto 4), (171, .iconst 0), (172, .ireturn)],
  [(231, 0, 9, 32, 1325)], none)
set_option maxRecDepth 100000 in
theorem mk_X9_mayStandBehind : mx_mok (fun a => mt_nm[a]?) mt_X9_mayStandBehind = true := sorry
def mt_X9_openType : mM := (yX9_openType, cX9_openType, (7, (some .boolean), 4, 9, 0), (1594, 1593, 105, 157),
  [(0, .aload_n 0), (1, .getfield 231), (4, .sipush 257), (7, .if_icmp .eq 9), (10, .aload_n 0), (11, .iconst 2), (12, .invokevirtual 256), (15, .ireturn), (16, .aload_n 0), (17, .iload_n 1), (18, .aload_n 0), (19, .invokevirtual 271), (22, .invokevirtual 275), (25, .istore 5), (27, .iload 5), (29, .ifCond .ge 14), (32, .aload_n 0), (33, .aload_n 0), (34, .invokevirtual 271), (37, .invokevirtual 279), (40, .goto 4), (43, .iconst (-1)), (44, .istore 6), (46, .iload 5), (48, .ifCond .ge 14), (51, .iload 6), (53, .ifCond .ge 9), (56, .aload_n 0), (57, .iconst 4), (58, .invokevirtual 256), (61, .ireturn), (62, .aload_n 0), (63, .getfield 283), (66, .sipush 300), (69, .if_icmp .eq 18), (72, .iload_n 3), (73, .bipush 8), (75, .if_icmp .ge 12), (78, .iload_n 3), (79, .ifCond .ne 15), (82, .iload 4), (84, .ifCond .eq 10), (87, .aload_n 0), (88, .bipush 6), (90, .invokevirtual 256), (93, .ireturn), (94, .iload_n 3), (95, .ifCond .ne 35), (98, .iload_n 2), (99, .ifCond .ne 8), (102, .iload 5), (104, .ifCond .ge 19), (107, .iload_n 2), (108, .iconst 1), (109, .if_icmp .ne 21), (112, .iload 5), (114, .ifCond .ge 9), (117, .iload 6), (119, .iload_n 1), (120, .if_icmp .ne 10), (123, .aload_n 0), (124, .bipush 7), (126, .invokevirtual 256), (129, .ireturn), (130, .aload_n 0), (131, .dup), (132, .getfield 283), (135, .iconst 1), (136, .iadd), (137, .putfield 283), (140, .aload_n 0), (141, .getfield 113), (144, .iload_n 3), (145, .iload 5), (147, .ifCond .lt 7), (150, .iconst 1), (151, .goto 4), (154, .iconst 0), (155, .bastore), (156, .aload_n 0), (157, .getfield 116), (160, .iload_n 3), (161, .iload 5), (163, .ifCond .lt 8), (166, .iload 5), (168, .goto 5), (171, .iload 6), (173, .iastore), (174, .aload_n 0), (175, .getfield 119), (178, .iload_n 3), (179, .iconst 0), (180, .iastore), (181, .aload_n 0), (182, .invokevirtual 259), (185, .iconst 1), (186, .ireturn)],
  [(113, 0, 9, 62, 1355), (116, 0, 9, 63, 1356), (119, 0, 9, 64, 1357), (231, 0, 9, 32, 1325), (256, 2, 133, 1, 1563), (259, 2, 131, 0, 1534), (271, 2, 135, 0, 1567), (275, 2, 137, 2, 1575), (279, 2, 136, 1, 1571), (283, 0, 9, 38, 1331)], none)
set_option maxRecDepth 100000 in
theorem mk_X9_openType : mx_mok (fun a => mt_nm[a]?) mt_X9_openType = true := sorry
def mt_X9_addArg : mM := (yX9_addArg, cX9_addArg, (3, none, 2, 9, 0), (1602, 1601, 107, 157),
  [(0, .aload_n 0), (1, .getfield 119), (4, .iload_n 1), (5, .iaload), (6, .iconst 4), (7, .if_icmp .ge 19), (10, .aload_n 0), (11, .getfield 122), (14, .iconst 4), (15, .iload_n 1), (16, .imul), (17, .aload_n 0), (18, .getfield 119), (21, .iload_n 1), (22, .iaload), (23, .iadd), (24, .iload_n 2), (25, .iastore), (26, .aload_n 0), (27, .getfield 119), (30, .iload_n 1), (31, .dup2), (32, .iaload), (33, .iconst 1), (34, .iadd), (35, .iastore), (36, .return_)],
  [(119, 0, 9, 64, 1357), (122, 0, 9, 65, 1358)], none)
set_option maxRecDepth 100000 in
theorem mk_X9_addArg : mx_mok (fun a => mt_nm[a]?) mt_X9_addArg = true := sorry
def mt_X9_closed : mM := (yX9_closed, cX9_closed, (3, (some .int), 1, 9, 0), (1610, 1609, 109, 157),
  [(0, .aload_n 0), (1, .getfield 113), (4, .iload_n 1), (5, .baload), (6, .ifCond .eq 16), (9, .aload_n 0), (10, .iconst 1), (11, .aload_n 0), (12, .getfield 116), (15, .iload_n 1), (16, .iaload), (17, .iconst 0), (18, .invokevirtual 161), (21, .ireturn), (22, .iconst 0), (23, .istore_n 2), (24, .iload_n 2), (25, .aload_n 0), (26, .getfield 119), (29, .iload_n 1), (30, .iaload), (31, .if_icmp .ge 25), (34, .aload_n 0), (35, .getfield 32), (38, .iload_n 2), (39, .aload_n 0), (40, .getfield 122), (43, .iconst 4), (44, .iload_n 1), (45, .imul), (46, .iload_n 2), (47, .iadd), (48, .iaload), (49, .iastore), (50, .iinc 2 1), (53, .goto (-29)), (56, .aload_n 0), (57, .iconst 0), (58, .aload_n 0), (59, .getfield 116), (62, .iload_n 1), (63, .iaload), (64, .aload_n 0), (65, .getfield 119), (68, .iload_n 1), (69, .iaload), (70, .invokevirtual 161), (73, .ireturn)],
  [(32, 0, 9, 9, 1302), (113, 0, 9, 62, 1355), (116, 0, 9, 63, 1356), (119, 0, 9, 64, 1357), (122, 0, 9, 65, 1358), (161, 2, 123, 3, 1275)], none)
set_option maxRecDepth 100000 in
theorem mk_X9_closed : mx_mok (fun a => mt_nm[a]?) mt_X9_closed = true := sorry
def mt_X9_readType : mM := (yX9_readType, cX9_readType, (8, (some .int), 3, 9, 0), (1590, 1589, 104, 157),
  [(0, .iconst 0), (1, .istore 4), (3, .iconst 0), (4, .istore 5), (6, .aload_n 0), (7, .getfield 125), (10, .iconst 0), (11, .iconst 0), (12, .iastore), (13, .iload 5), (15, .ifCond .ne 90), (18, .aload_n 0), (19, .iload_n 1), (20, .iload_n 2), (21, .iload 4), (23, .iload_n 3), (24, .invokevirtual 286), (27, .ifCond .ne 5), (30, .iconst (-1)), (31, .ireturn), (32, .aload_n 0), (33, .getfield 231), (36, .bipush 60), (38, .if_icmp .ne 16), (41, .aload_n 0), (42, .bipush 61), (44, .invokevirtual 290), (47, .ifCond .ne 7), (50, .iconst 1), (51, .goto 4), (54, .iconst 0), (55, .istore 6), (57, .iload 6), (59, .ifCond .eq 22), (62, .aload_n 0), (63, .getfield 113), (66, .iload 4), (68, .baload), (69, .ifCond .eq 12), (72, .aload_n 0), (73, .iconst 5), (74, .invokevirtual 256), (77, .istore 7), (79, .iconst (-1)), (80, .ireturn), (81, .iload 6), (83, .ifCond .eq 7), (86, .iconst 1), (87, .goto 4), (90, .iconst 2), (91, .istore 5), (93, .iload 6), (95, .ifCond .eq 7), (98, .aload_n 0), (99, .invokevirtual 259), (102, .goto (-89)), (105, .iload 5), (107, .iconst 1), (108, .if_icmp .ne 158), (111, .aload_n 0), (112, .getfield 231), (115, .bipush 63), (117, .if_icmp .ne 130), (120, .aload_n 0), (121, .getfield 283), (124, .sipush 300), (127, .if_icmp .ne 13), (130, .aload_n 0), (131, .bipush 6), (133, .invokevirtual 256), (136, .istore 6), (138, .iconst (-1)), (139, .ireturn), (140, .iload_n 2), (141, .iconst 1), (142, .if_icmp .ne 18), (145, .iload 4), (147, .ifCond .ne 13), (150, .aload_n 0), (151, .bipush 7), (153, .invokevirtual 256), (156, .istore 6), (158, .iconst (-1)), (159, .ireturn), (160, .aload_n 0), (161, .dup), (162, .getfield 283), (165, .iconst 1), (166, .iadd), (167, .putfield 283), (170, .aload_n 0), (171, .invokevirtual 259), (174, .aload_n 0), (175, .getfield 231), (178, .bipush 58), (180, .if_icmp .eq 12), (183, .aload_n 0), (184, .getfield 231), (187, .bipush 94), (189, .if_icmp .ne 39), (192, .aload_n 0), (193, .getfield 125), (196, .iload 4), (198, .iconst 1), (199, .iadd), (200, .aload_n 0), (201, .getfield 231), (204, .bipush 58), (206, .if_icmp .ne 7), (209, .iconst 4), (210, .goto 4), (213, .iconst 5), (214, .iastore), (215, .iinc 4 1), (218, .aload_n 0), (219, .invokevirtual 259), (222, .iconst 0), (223, .istore 5), (225, .goto (-212)), (228, .aload_n 0), (229, .iload 4), (231, .aload_n 0), (232, .iconst 3), (233, .iconst 0), (234, .iconst 0), (235, .invokevirtual 161), (238, .invokevirtual 293), (241, .iconst 3), (242, .istore 5), (244, .goto (-231)), (247, .aload_n 0), (248, .getfield 125), (251, .iload 4), (253, .iconst 1), (254, .iadd), (255, .iconst 0), (256, .iastore), (257, .iinc 4 1), (260, .iconst 0), (261, .istore 5), (263, .goto (-250)), (266, .iload 5), (268, .iconst 2), (269, .if_icmp .ne 134), (272, .aload_n 0), (273, .iload 4), (275, .iload_n 2), (276, .invokevirtual 297), (279, .ifCond .ne 12), (282, .aload_n 0), (283, .iconst 2), (284, .invokevirtual 256), (287, .istore 6), (289, .iconst (-1)), (290, .ireturn), (291, .aload_n 0), (292, .getfield 113), (295, .iload 4), (297, .baload), (298, .ifCond .ne 39), (301, .aload_n 0), (302, .getfield 119), (305, .iload 4), (307, .iaload), (308, .aload_n 0), (309, .getfield 42), (312, .aload_n 0), (313, .getfield 265), (316, .aload_n 0), (317, .getfield 116), (320, .iload 4), (322, .iaload), (323, .iadd), (324, .iaload), (325, .if_icmp .eq 12), (328, .aload_n 0), (329, .iconst 5), (330, .invokevirtual 256), (333, .istore 6), (335, .iconst (-1)), (336, .ireturn), (337, .aload_n 0), (338, .iload 4), (340, .invokevirtual 301), (343, .istore 6), (345, .iload 4), (347, .ifCond .ne 6), (350, .iload 6), (352, .ireturn), (353, .aload_n 0), (354, .getfield 125), (357, .iload 4), (359, .iaload), (360, .ifCond .eq 26), (363, .aload_n 0), (364, .getfield 32), (367, .iconst 0), (368, .iload 6), (370, .iastore), (371, .aload_n 0), (372, .aload_n 0), (373, .getfield 125), (376, .iload 4), (378, .iaload), (379, .iconst 0), (380, .iconst 1), (381, .invokevirtual 161), (384, .istore 6), (386, .iinc 4 (-1)), (389, .aload_n 0), (390, .iload 4), (392, .iload 6), (394, .invokevirtual 293), (397, .iconst 3), (398, .istore 5), (400, .goto (-387)), (403, .aload_n 0), (404, .getfield 231), (407, .bipush 44), (409, .if_icmp .eq 21), (412, .aload_n 0), (413, .getfield 231), (416, .bipush 62), (418, .if_icmp .eq 12), (421, .aload_n 0), (422, .iconst 2), (423, .invokevirtual 256), (426, .istore 6), (428, .iconst (-1)), (429, .ireturn), (430, .aload_n 0), (431, .getfield 231), (434, .bipush 44), (436, .if_icmp .ne 7), (439, .iconst 1), (440, .goto 4), (443, .iconst 2), (444, .istore 5), (446, .aload_n 0), (447, .invokevirtual 259), (450, .goto (-437))],
  [(32, 0, 9, 9, 1302), (42, 0, 9, 12, 1305), (113, 0, 9, 62, 1355), (116, 0, 9, 63, 1356), (119, 0, 9, 64, 1357), (125, 0, 9, 66, 1359), (161, 2, 123, 3, 1275), (231, 0, 9, 32, 1325), (256, 2, 133, 1, 1563), (259, 2, 131, 0, 1534), (265, 0, 9, 24, 1317), (283, 0, 9, 38, 1331), (286, 2, 139, 4, 1591), (290, 2, 132, 1, 1595), (293, 2, 140, 2, 1599), (297, 2, 138, 2, 1603), (301, 2, 141, 1, 1607)], none)
set_option maxRecDepth 100000 in
theorem mk_X9_readType : mx_mok (fun a => mt_nm[a]?) mt_X9_readType = true := sorry
def mt_X9_readHead : mM := (yX9_readHead, cX9_readHead, (2, (some .boolean), 1, 9, 0), (1562, 1561, 97, 157),
  [(0, .aload_n 0), (1, .getfield 231), (4, .sipush 257), (7, .if_icmp .eq 9), (10, .aload_n 0), (11, .iconst 2), (12, .invokevirtual 256), (15, .ireturn), (16, .aload_n 0), (17, .aload_n 0), (18, .invokevirtual 271), (21, .invokevirtual 279), (24, .ifCond .lt 9), (27, .aload_n 0), (28, .iconst 3), (29, .invokevirtual 256), (32, .ireturn), (33, .aload_n 0), (34, .getfield 262), (37, .bipush 21), (39, .if_icmp .ne 10), (42, .aload_n 0), (43, .bipush 6), (45, .invokevirtual 256), (48, .ireturn), (49, .aload_n 0), (50, .getfield 35), (53, .aload_n 0), (54, .getfield 265), (57, .iload_n 1), (58, .iadd), (59, .aload_n 0), (60, .invokevirtual 271), (63, .lastore), (64, .aload_n 0), (65, .getfield 39), (68, .aload_n 0), (69, .getfield 265), (72, .iload_n 1), (73, .iadd), (74, .aload_n 0), (75, .getfield 305), (78, .iastore), (79, .aload_n 0), (80, .getfield 42), (83, .aload_n 0), (84, .getfield 265), (87, .iload_n 1), (88, .iadd), (89, .iconst 0), (90, .iastore), (91, .aload_n 0), (92, .getfield 48), (95, .aload_n 0), (96, .getfield 265), (99, .iload_n 1), (100, .iadd), (101, .iconst 0), (102, .iastore), (103, .aload_n 0), (104, .dup), (105, .getfield 262), (108, .iconst 1), (109, .iadd), (110, .putfield 262), (113, .aload_n 0), (114, .invokevirtual 259), (117, .aload_n 0), (118, .getfield 231), (121, .bipush 60), (123, .if_icmp .eq 5), (126, .iconst 1), (127, .ireturn), (128, .aload_n 0), (129, .invokevirtual 259), (132, .aload_n 0), (133, .getfield 231), (136, .sipush 257), (139, .if_icmp .eq 9), (142, .aload_n 0), (143, .iconst 2), (144, .invokevirtual 256), (147, .ireturn), (148, .aload_n 0), (149, .iload_n 1), (150, .aload_n 0), (151, .invokevirtual 271), (154, .invokevirtual 275), (157, .ifCond .lt 9), (160, .aload_n 0), (161, .iconst 3), (162, .invokevirtual 256), (165, .ireturn), (166, .aload_n 0), (167, .getfield 42), (170, .aload_n 0), (171, .getfield 265), (174, .iload_n 1), (175, .iadd), (176, .iaload), (177, .iconst 4), (178, .if_icmp .ne 10), (181, .aload_n 0), (182, .bipush 6), (184, .invokevirtual 256), (187, .ireturn), (188, .aload_n 0), (189, .getfield 54), (192, .aload_n 0), (193, .getfield 268), (196, .aload_n 0), (197, .getfield 305), (200, .iadd), (201, .aload_n 0), (202, .invokevirtual 271), (205, .lastore), (206, .aload_n 0), (207, .getfield 57), (210, .aload_n 0), (211, .getfield 268), (214, .aload_n 0), (215, .getfield 305), (218, .iadd), (219, .iload_n 1), (220, .iastore), (221, .aload_n 0), (222, .getfield 63), (225, .aload_n 0), (226, .getfield 268), (229, .aload_n 0), (230, .getfield 305), (233, .iadd), (234, .iconst 0), (235, .iastore), (236, .aload_n 0), (237, .dup), (238, .getfield 305), (241, .iconst 1), (242, .iadd), (243, .putfield 305), (246, .aload_n 0), (247, .getfield 42), (250, .aload_n 0), (251, .getfield 265), (254, .iload_n 1), (255, .iadd), (256, .dup2), (257, .iaload), (258, .iconst 1), (259, .iadd), (260, .iastore), (261, .aload_n 0), (262, .invokevirtual 259), (265, .aload_n 0), (266, .getfield 231), (269, .bipush 44), (271, .if_icmp .eq (-143)), (274, .aload_n 0), (275, .bipush 62), (277, .invokevirtual 308), (280, .ireturn)],
  [(35, 0, 9, 10, 1303), (39, 0, 9, 11, 1304), (42, 0, 9, 12, 1305), (48, 0, 9, 14, 1307), (54, 0, 9, 16, 1309), (57, 0, 9, 17, 1310), (63, 0, 9, 19, 1312), (231, 0, 9, 32, 1325), (256, 2, 133, 1, 1563), (259, 2, 131, 0, 1534), (262, 0, 9, 26, 1319), (265, 0, 9, 24, 1317), (268, 0, 9, 25, 1318), (271, 2, 135, 0, 1567), (275, 2, 137, 2, 1575), (279, 2, 136, 1, 1571), (305, 0, 9, 27, 1320), (308, 2, 134, 1, 1579)], none)
set_option maxRecDepth 100000 in
theorem mk_X9_readHead : mx_mok (fun a => mt_nm[a]?) mt_X9_readHead = true := sorry
def mt_X9_readBounds : mM := (yX9_readBounds, cX9_readBounds, (4, (some .boolean), 1, 9, 0), (1586, 1585, 103, 157),
  [(0, .aload_n 0), (1, .invokevirtual 259), (4, .aload_n 0), (5, .getfield 231), (8, .sipush 257), (11, .if_icmp .eq 9), (14, .aload_n 0), (15, .iconst 2), (16, .invokevirtual 256), (19, .ireturn), (20, .aload_n 0), (21, .iload_n 1), (22, .aload_n 0), (23, .invokevirtual 271), (26, .invokevirtual 275), (29, .istore_n 2), (30, .iload_n 2), (31, .ifCond .ge 9), (34, .aload_n 0), (35, .iconst 4), (36, .invokevirtual 256), (39, .ireturn), (40, .aload_n 0), (41, .getfield 63), (44, .aload_n 0), (45, .getfield 268), (48, .iload_n 2), (49, .iadd), (50, .iaload), (51, .ifCond .le 9), (54, .aload_n 0), (55, .iconst 3), (56, .invokevirtual 256), (59, .ireturn), (60, .aload_n 0), (61, .invokevirtual 259), (64, .aload_n 0), (65, .getfield 231), (68, .bipush 58), (70, .if_icmp .eq 9), (73, .aload_n 0), (74, .iconst 2), (75, .invokevirtual 256), (78, .ireturn), (79, .aload_n 0), (80, .invokevirtual 259), (83, .aload_n 0), (84, .iload_n 1), (85, .iconst 0), (86, .aload_n 0), (87, .getfield 63), (90, .aload_n 0), (91, .getfield 268), (94, .iload_n 2), (95, .iadd), (96, .iaload), (97, .iconst 2), (98, .if_icmp .ne 7), (101, .iconst 1), (102, .goto 4), (105, .iconst 0), (106, .invokevirtual 311), (109, .istore_n 3), (110, .iload_n 3), (111, .ifCond .ge 5), (114, .iconst 0), (115, .ireturn), (116, .aload_n 0), (117, .getfield 60), (120, .iconst 2), (121, .aload_n 0), (122, .getfield 268), (125, .iload_n 2), (126, .iadd), (127, .imul), (128, .aload_n 0), (129, .getfield 63), (132, .aload_n 0), (133, .getfield 268), (136, .iload_n 2), (137, .iadd), (138, .iaload), (139, .iadd), (140, .iload_n 3), (141, .iastore), (142, .aload_n 0), (143, .getfield 63), (146, .aload_n 0), (147, .getfield 268), (150, .iload_n 2), (151, .iadd), (152, .dup2), (153, .iaload), (154, .iconst 1), (155, .iadd), (156, .iastore), (157, .aload_n 0), (158, .getfield 231), (161, .bipush 38), (163, .if_icmp .eq (-84)), (166, .aload_n 0), (167, .getfield 231), (170, .bipush 44), (172, .if_icmp .eq (-172)), (175, .iconst 1), (176, .ireturn)],
  [(60, 0, 9, 18, 1311), (63, 0, 9, 19, 1312), (231, 0, 9, 32, 1325), (256, 2, 133, 1, 1563), (259, 2, 131, 0, 1534), (268, 0, 9, 25, 1318), (271, 2, 135, 0, 1567), (275, 2, 137, 2, 1575), (311, 2, 142, 3, 1587)], none)
set_option maxRecDepth 100000 in
theorem mk_X9_readBounds : mx_mok (fun a => mt_nm[a]?) mt_X9_readBounds = true := sorry
def mt_X9_readSupers : mM := (yX9_readSupers, cX9_readSupers, (3, (some .boolean), 1, 9, 0), (1614, 1613, 110, 157),
  [(0, .aload_n 0), (1, .invokevirtual 259), (4, .aload_n 0), (5, .iload_n 1), (6, .iconst 1), (7, .aload_n 0), (8, .getfield 48), (11, .aload_n 0), (12, .getfield 265), (15, .iload_n 1), (16, .iadd), (17, .iaload), (18, .iconst 4), (19, .if_icmp .ne 7), (22, .iconst 1), (23, .goto 4), (26, .iconst 0), (27, .invokevirtual 311), (30, .istore_n 2), (31, .iload_n 2), (32, .ifCond .ge 5), (35, .iconst 0), (36, .ireturn), (37, .aload_n 0), (38, .getfield 45), (41, .iconst 4), (42, .aload_n 0), (43, .getfield 265), (46, .iload_n 1), (47, .iadd), (48, .imul), (49, .aload_n 0), (50, .getfield 48), (53, .aload_n 0), (54, .getfield 265), (57, .iload_n 1), (58, .iadd), (59, .iaload), (60, .iadd), (61, .iload_n 2), (62, .iastore), (63, .aload_n 0), (64, .getfield 48), (67, .aload_n 0), (68, .getfield 265), (71, .iload_n 1), (72, .iadd), (73, .dup2), (74, .iaload), (75, .iconst 1), (76, .iadd), (77, .iastore), (78, .aload_n 0), (79, .getfield 231), (82, .bipush 44), (84, .if_icmp .eq (-84)), (87, .iconst 1), (88, .ireturn)],
  [(45, 0, 9, 13, 1306), (48, 0, 9, 14, 1307), (231, 0, 9, 32, 1325), (259, 2, 131, 0, 1534), (265, 0, 9, 24, 1317), (311, 2, 142, 3, 1587)], none)
set_option maxRecDepth 100000 in
theorem mk_X9_readSupers : mx_mok (fun a => mt_nm[a]?) mt_X9_readSupers = true := sorry
def mt_X9_findAbove : mM := (yX9_findAbove, cX9_findAbove, (10, (some .boolean), 1, 9, 0), (1618, 1617, 111, 157),
  [(0, .bipush 21), (2, .aload_n 0), (3, .getfield 265), (6, .iload_n 1), (7, .iadd), (8, .imul), (9, .istore_n 2), (10, .iconst 0), (11, .istore_n 3), (12, .iload_n 3), (13, .bipush 21), (15, .if_icmp .ge 18), (18, .aload_n 0), (19, .getfield 51), (22, .iload_n 2), (23, .iload_n 3), (24, .iadd), (25, .iconst (-1)), (26, .iastore), (27, .iinc 3 1), (30, .goto (-18)), (33, .iconst 0), (34, .istore_n 3), (35, .iload_n 3), (36, .aload_n 0), (37, .getfield 42), (40, .aload_n 0), (41, .getfield 265), (44, .iload_n 1), (45, .iadd), (46, .iaload), (47, .if_icmp .ge 38), (50, .aload_n 0), (51, .iconst 1), (52, .aload_n 0), (53, .getfield 39), (56, .aload_n 0), (57, .getfield 265), (60, .iload_n 1), (61, .iadd), (62, .iaload), (63, .iload_n 3), (64, .iadd), (65, .iconst 0), (66, .invokevirtual 161), (69, .istore 4), (71, .aload_n 0), (72, .getfield 110), (75, .iload_n 3), (76, .iload 4), (78, .iastore), (79, .iinc 3 1), (82, .goto (-47)), (85, .iconst 0), (86, .istore_n 3), (87, .iload_n 3), (88, .aload_n 0), (89, .getfield 42), (92, .aload_n 0), (93, .getfield 265), (96, .iload_n 1), (97, .iadd), (98, .iaload), (99, .if_icmp .ge 21), (102, .aload_n 0), (103, .getfield 32), (106, .iload_n 3), (107, .aload_n 0), (108, .getfield 110), (111, .iload_n 3), (112, .iaload), (113, .iastore), (114, .iinc 3 1), (117, .goto (-30)), (120, .aload_n 0), (121, .getfield 51), (124, .iload_n 2), (125, .iload_n 1), (126, .iadd), (127, .aload_n 0), (128, .iconst 0), (129, .iload_n 1), (130, .aload_n 0), (131, .getfield 42), (134, .aload_n 0), (135, .getfield 265), (138, .iload_n 1), (139, .iadd), (140, .iaload), (141, .invokevirtual 161), (144, .iastore), (145, .aload_n 0), (146, .getfield 51), (149, .iload_n 2), (150, .aload_n 0), (151, .iconst 0), (152, .iconst 0), (153, .iconst 0), (154, .invokevirtual 161), (157, .iastore), (158, .iconst 1), (159, .istore_n 3), (160, .iconst 0), (161, .istore 4), (163, .iload 4), (165, .aload_n 0), (166, .getfield 48), (169, .aload_n 0), (170, .getfield 265), (173, .iload_n 1), (174, .iadd), (175, .iaload), (176, .if_icmp .ge 173), (179, .aload_n 0), (180, .getfield 45), (183, .iconst 4), (184, .aload_n 0), (185, .getfield 265), (188, .iload_n 1), (189, .iadd), (190, .imul), (191, .iload 4), (193, .iadd), (194, .iaload), (195, .istore 5), (197, .aload_n 0), (198, .getfield 13), (201, .iload 5), (203, .iaload), (204, .istore 6), (206, .iconst 0), (207, .istore 7), (209, .iload 7), (211, .aload_n 0), (212, .getfield 262), (215, .if_icmp .ge 128), (218, .aload_n 0), (219, .getfield 51), (222, .bipush 21), (224, .aload_n 0), (225, .getfield 265), (228, .iload 6), (230, .iadd), (231, .imul), (232, .iload 7), (234, .iadd), (235, .iaload), (236, .istore 8), (238, .iload 8), (240, .ifCond .lt 97), (243, .aload_n 0), (244, .iload 8), (246, .aload_n 0), (247, .getfield 39), (250, .aload_n 0), (251, .getfield 265), (254, .iload 6), (256, .iadd), (257, .iaload), (258, .aload_n 0), (259, .getfield 42), (262, .aload_n 0), (263, .getfield 265), (266, .iload 6), (268, .iadd), (269, .iaload), (270, .iload 5), (272, .invokevirtual 315), (275, .istore 9), (277, .iload_n 3), (278, .ifCond .eq 46), (281, .aload_n 0), (282, .getfield 23), (285, .iload 9), (287, .iaload), (288, .sipush 200), (291, .if_icmp .gt 33), (294, .aload_n 0), (295, .getfield 51), (298, .iload_n 2), (299, .iload 7), (301, .iadd), (302, .iaload), (303, .ifCond .lt 17), (306, .aload_n 0), (307, .getfield 51), (310, .iload_n 2), (311, .iload 7), (313, .iadd), (314, .iaload), (315, .iload 9), (317, .if_icmp .ne 7), (320, .iconst 1), (321, .goto 4), (324, .iconst 0), (325, .istore_n 3), (326, .aload_n 0), (327, .getfield 51), (330, .iload_n 2), (331, .iload 7), (333, .iadd), (334, .iload 9), (336, .iastore), (337, .iinc 7 1), (340, .goto (-131)), (343, .iinc 4 1), (346, .goto (-183)), (349, .iload_n 3), (350, .ireturn)],
  [(13, 0, 9, 1, 1294), (23, 0, 9, 4, 1297), (32, 0, 9, 9, 1302), (39, 0, 9, 11, 1304), (42, 0, 9, 12, 1305), (45, 0, 9, 13, 1306), (48, 0, 9, 14, 1307), (51, 0, 9, 15, 1308), (110, 0, 9, 61, 1354), (161, 2, 123, 3, 1275), (262, 0, 9, 26, 1319), (265, 0, 9, 24, 1317), (315, 2, 125, 4, 1619)], none)
set_option maxRecDepth 100000 in
theorem mk_X9_findAbove : mx_mok (fun a => mt_nm[a]?) mt_X9_findAbove = true := sorry
def mt_X9_readDecl : mM := (yX9_readDecl, cX9_readDecl, (2, (some .boolean), 0, 9, 0), (1558, 1557, 96, 157),
  [(0, .aload_n 0), (1, .getfield 262), (4, .istore_n 1), (5, .aload_n 0), (6, .iload_n 1), (7, .invokevirtual 318), (10, .ifCond .ne 5), (13, .iconst 0), (14, .ireturn), (15, .aload_n 0), (16, .getfield 231), (19, .sipush 259), (22, .if_icmp .ne 13), (25, .aload_n 0), (26, .iload_n 1), (27, .invokevirtual 321), (30, .ifCond .ne 5), (33, .iconst 0), (34, .ireturn), (35, .aload_n 0), (36, .getfield 231), (39, .bipush 58), (41, .if_icmp .ne 13), (44, .aload_n 0), (45, .iload_n 1), (46, .invokevirtual 324), (49, .ifCond .ne 5), (52, .iconst 0), (53, .ireturn), (54, .aload_n 0), (55, .getfield 231), (58, .bipush 59), (60, .if_icmp .eq 9), (63, .aload_n 0), (64, .iconst 2), (65, .invokevirtual 256), (68, .ireturn), (69, .aload_n 0), (70, .iload_n 1), (71, .invokevirtual 327), (74, .ifCond .ne 10), (77, .aload_n 0), (78, .bipush 8), (80, .invokevirtual 256), (83, .ireturn), (84, .aload_n 0), (85, .invokevirtual 259), (88, .iconst 1), (89, .ireturn)],
  [(231, 0, 9, 32, 1325), (256, 2, 133, 1, 1563), (259, 2, 131, 0, 1534), (262, 0, 9, 26, 1319), (318, 2, 143, 1, 1559), (321, 2, 144, 1, 1583), (324, 2, 145, 1, 1611), (327, 2, 146, 1, 1615)], none)
set_option maxRecDepth 100000 in
theorem mk_X9_readDecl : mx_mok (fun a => mt_nm[a]?) mt_X9_readDecl = true := sorry
def mt_X9_begin : mM := (yX9_begin, cX9_begin, (1, none, 0, 9, 0), (1533, 1532, 92, 157),
  [(0, .aload_n 0), (1, .aload_n 0), (2, .getfield 172), (5, .putfield 215), (8, .aload_n 0), (9, .iconst 0), (10, .putfield 172), (13, .aload_n 0), (14, .iconst 0), (15, .putfield 222), (18, .aload_n 0), (19, .iconst 0), (20, .putfield 250), (23, .aload_n 0), (24, .iconst 0), (25, .putfield 283), (28, .aload_n 0), (29, .invokevirtual 259), (32, .return_)],
  [(172, 0, 9, 29, 1322), (215, 0, 9, 30, 1323), (222, 0, 9, 31, 1324), (250, 0, 9, 35, 1328), (259, 2, 131, 0, 1534), (283, 0, 9, 38, 1331)], none)
set_option maxRecDepth 100000 in
theorem mk_X9_begin : mx_mok (fun a => mt_nm[a]?) mt_X9_begin = true := sorry
def mt_X9_read : mM := (yX9_read, cX9_read, (4, (some .int), 0, 9, 0), (1529, 1527, 1528, 157),
  [(0, .aload_n 0), (1, .iconst 0), (2, .putfield 330), (5, .aload_n 0), (6, .getfield 152), (9, .istore_n 1), (10, .aload_n 0), (11, .bipush 21), (13, .putfield 265), (16, .aload_n 0), (17, .bipush 80), (19, .putfield 268), (22, .aload_n 0), (23, .iconst 1), (24, .putfield 262), (27, .aload_n 0), (28, .iconst 0), (29, .putfield 305), (32, .aload_n 0), (33, .getfield 35), (36, .bipush 21), (38, .ldc2_w 140), (41, .lastore), (42, .aload_n 0), (43, .getfield 39), (46, .bipush 21), (48, .iconst 0), (49, .iastore), (50, .aload_n 0), (51, .getfield 42), (54, .bipush 21), (56, .iconst 0), (57, .iastore), (58, .aload_n 0), (59, .getfield 48), (62, .bipush 21), (64, .iconst 0), (65, .iastore), (66, .aload_n 0), (67, .invokevirtual 158), (70, .iconst 0), (71, .istore_n 2), (72, .iload_n 2), (73, .bipush 21), (75, .if_icmp .ge 20), (78, .aload_n 0), (79, .getfield 51), (82, .sipush 441), (85, .iload_n 2), (86, .iadd), (87, .iconst (-1)), (88, .iastore), (89, .iinc 2 1), (92, .goto (-20)), (95, .aload_n 0), (96, .getfield 51), (99, .sipush 441), (102, .aload_n 0), (103, .iconst 0), (104, .iconst 0), (105, .iconst 0), (106, .invokevirtual 161), (109, .iastore), (110, .aload_n 0), (111, .invokevirtual 333), (114, .iconst 1), (115, .istore_n 2), (116, .iconst 1), (117, .istore_n 3), (118, .iload_n 2), (119, .ifCond .eq 27), (122, .iload_n 3), (123, .ifCond .ne 13), (126, .aload_n 0), (127, .getfield 231), (130, .sipush 256), (133, .if_icmp .eq 13), (136, .aload_n 0), (137, .invokevirtual 336), (140, .istore_n 2), (141, .iconst 0), (142, .istore_n 3), (143, .goto (-25)), (146, .aload_n 0), (147, .aload_n 0), (148, .getfield 250), (151, .putfield 175), (154, .iload_n 2), (155, .ifCond .ne 17), (158, .aload_n 0), (159, .iconst 0), (160, .iload_n 1), (161, .invokevirtual 340), (164, .bipush (-10)), (166, .aload_n 0), (167, .getfield 253), (170, .isub), (171, .ireturn), (172, .aload_n 0), (173, .iload_n 1), (174, .invokevirtual 343), (177, .aload_n 0), (178, .getfield 142), (181, .ireturn)],
  [(35, 0, 9, 10, 1303), (39, 0, 9, 11, 1304), (42, 0, 9, 12, 1305), (48, 0, 9, 14, 1307), (51, 0, 9, 15, 1308), (140, 11, 0, 1270, 4288121), (142, 0, 9, 20, 1313), (152, 0, 9, 8, 1301), (158, 2, 120, 0, 1271), (161, 2, 123, 3, 1275), (175, 0, 9, 37, 1330), (231, 0, 9, 32, 1325), (250, 0, 9, 35, 1328), (253, 0, 9, 36, 1329), (262, 0, 9, 26, 1319), (265, 0, 9, 24, 1317), (268, 0, 9, 25, 1318), (305, 0, 9, 27, 1320), (330, 0, 9, 54, 1347), (333, 2, 148, 0, 1530), (336, 2, 147, 0, 1555), (340, 2, 124, 2, 1627), (343, 2, 151, 1, 1631)], none)
set_option maxRecDepth 100000 in
theorem mk_X9_read : mx_mok (fun a => mt_nm[a]?) mt_X9_read = true := sorry
def mt_X9_down : mM := (yX9_down, cX9_down, (3, (some .int), 2, 9, 0), (1638, 1637, 116, 157),
  [(0, .iload_n 1), (1, .ifCond .ge 7), (4, .iload_n 1), (5, .goto 6), (8, .iload_n 1), (9, .iload_n 2), (10, .isub), (11, .ireturn)],
  [], none)
set_option maxRecDepth 100000 in
theorem mk_X9_down : mx_mok (fun a => mt_nm[a]?) mt_X9_down = true := sorry
end
section
/-! ### methods, part 5 -/
def mt_X9_commit : mM := (yX9_commit, cX9_commit, (5, none, 1, 9, 0), (1634, 1633, 115, 157),
  [(0, .aload_n 0), (1, .getfield 152), (4, .iload_n 1), (5, .isub), (6, .istore_n 2), (7, .iconst 0), (8, .istore_n 3), (9, .iload_n 3), (10, .iload_n 2), (11, .if_icmp .ge 111), (14, .aload_n 0), (15, .getfield 7), (18, .iload_n 3), (19, .aload_n 0), (20, .getfield 7), (23, .iload_n 1), (24, .iload_n 3), (25, .iadd), (26, .iaload), (27, .iastore), (28, .aload_n 0), (29, .getfield 13), (32, .iload_n 3), (33, .aload_n 0), (34, .getfield 13), (37, .iload_n 1), (38, .iload_n 3), (39, .iadd), (40, .iaload), (41, .iastore), (42, .aload_n 0), (43, .getfield 16), (46, .iload_n 3), (47, .aload_n 0), (48, .getfield 16), (51, .iload_n 1), (52, .iload_n 3), (53, .iadd), (54, .iaload), (55, .iastore), (56, .aload_n 0), (57, .getfield 23), (60, .iload_n 3), (61, .aload_n 0), (62, .getfield 23), (65, .iload_n 1), (66, .iload_n 3), (67, .iadd), (68, .iaload), (69, .iastore), (70, .iconst 0), (71, .istore 4), (73, .iload 4), (75, .aload_n 0), (76, .getfield 16), (79, .iload_n 3), (80, .iaload), (81, .if_icmp .ge 35), (84, .aload_n 0), (85, .getfield 20), (88, .iconst 4), (89, .iload_n 3), (90, .imul), (91, .iload 4), (93, .iadd), (94, .aload_n 0), (95, .getfield 20), (98, .iconst 4), (99, .iload_n 1), (100, .iload_n 3), (101, .iadd), (102, .imul), (103, .iload 4), (105, .iadd), (106, .iaload), (107, .iload_n 1), (108, .isub), (109, .iastore), (110, .iinc 4 1), (113, .goto (-40)), (116, .iinc 3 1), (119, .goto (-110)), (122, .aload_n 0), (123, .aload_n 0), (124, .getfield 262), (127, .putfield 142), (130, .aload_n 0), (131, .aload_n 0), (132, .getfield 305), (135, .putfield 146), (138, .aload_n 0), (139, .aload_n 0), (140, .getfield 283), (143, .putfield 149), (146, .iconst 0), (147, .istore_n 3), (148, .iload_n 3), (149, .aload_n 0), (150, .getfield 142), (153, .if_icmp .ge 164), (156, .aload_n 0), (157, .getfield 35), (160, .iload_n 3), (161, .aload_n 0), (162, .getfield 35), (165, .bipush 21), (167, .iload_n 3), (168, .iadd), (169, .laload), (170, .lastore), (171, .aload_n 0), (172, .getfield 39), (175, .iload_n 3), (176, .aload_n 0), (177, .getfield 39), (180, .bipush 21), (182, .iload_n 3), (183, .iadd), (184, .iaload), (185, .iastore), (186, .aload_n 0), (187, .getfield 42), (190, .iload_n 3), (191, .aload_n 0), (192, .getfield 42), (195, .bipush 21), (197, .iload_n 3), (198, .iadd), (199, .iaload), (200, .iastore), (201, .aload_n 0), (202, .getfield 48), (205, .iload_n 3), (206, .aload_n 0), (207, .getfield 48), (210, .bipush 21), (212, .iload_n 3), (213, .iadd), (214, .iaload), (215, .iastore), (216, .iconst 0), (217, .istore 4), (219, .iload 4), (221, .aload_n 0), (222, .getfield 48), (225, .iload_n 3), (226, .iaload), (227, .if_icmp .ge 36), (230, .aload_n 0), (231, .getfield 45), (234, .iconst 4), (235, .iload_n 3), (236, .imul), (237, .iload 4), (239, .iadd), (240, .aload_n 0), (241, .getfield 45), (244, .iconst 4), (245, .bipush 21), (247, .iload_n 3), (248, .iadd), (249, .imul), (250, .iload 4), (252, .iadd), (253, .iaload), (254, .iload_n 1), (255, .isub), (256, .iastore), (257, .iinc 4 1), (260, .goto (-41)), (263, .iconst 0), (264, .istore 4), (266, .iload 4), (268, .bipush 21), (270, .if_icmp .ge 41), (273, .aload_n 0), (274, .getfield 51), (277, .bipush 21), (279, .iload_n 3), (280, .imul), (281, .iload 4), (283, .iadd), (284, .aload_n 0), (285, .aload_n 0), (286, .getfield 51), (289, .bipush 21), (291, .bipush 21), (293, .iload_n 3), (294, .iadd), (295, .imul), (296, .iload 4), (298, .iadd), (299, .iaload), (300, .iload_n 1), (301, .invokevirtual 347), (304, .iastore), (305, .iinc 4 1), (308, .goto (-42)), (311, .iinc 3 1), (314, .goto (-166)), (317, .iconst 0), (318, .istore_n 3), (319, .iload_n 3), (320, .aload_n 0), (321, .getfield 146), (324, .if_icmp .ge 101), (327, .aload_n 0), (328, .getfield 54), (331, .iload_n 3), (332, .aload_n 0), (333, .getfield 54), (336, .bipush 80), (338, .iload_n 3), (339, .iadd), (340, .laload), (341, .lastore), (342, .aload_n 0), (343, .getfield 57), (346, .iload_n 3), (347, .aload_n 0), (348, .getfield 57), (351, .bipush 80), (353, .iload_n 3), (354, .iadd), (355, .iaload), (356, .iastore), (357, .aload_n 0), (358, .getfield 63), (361, .iload_n 3), (362, .aload_n 0), (363, .getfield 63), (366, .bipush 80), (368, .iload_n 3), (369, .iadd), (370, .iaload), (371, .iastore), (372, .iconst 0), (373, .istore 4), (375, .iload 4), (377, .aload_n 0), (378, .getfield 63), (381, .iload_n 3), (382, .iaload), (383, .if_icmp .ge 36), (386, .aload_n 0), (387, .getfield 60), (390, .iconst 2), (391, .iload_n 3), (392, .imul), (393, .iload 4), (395, .iadd), (396, .aload_n 0), (397, .getfield 60), (400, .iconst 2), (401, .bipush 80), (403, .iload_n 3), (404, .iadd), (405, .imul), (406, .iload 4), (408, .iadd), (409, .iaload), (410, .iload_n 1), (411, .isub), (412, .iastore), (413, .iinc 4 1), (416, .goto (-41)), (419, .iinc 3 1), (422, .goto (-103)), (425, .aload_n 0), (426, .iload_n 2), (427, .putfield 165), (430, .aload_n 0), (431, .iconst 0), (432, .iload_n 2), (433, .invokevirtual 340), (436, .aload_n 0), (437, .invokevirtual 178), (440, .aload_n 0), (441, .invokevirtual 351), (444, .return_)],
  [(7, 0, 9, 0, 1293), (13, 0, 9, 1, 1294), (16, 0, 9, 2, 1295), (20, 0, 9, 3, 1296), (23, 0, 9, 4, 1297), (35, 0, 9, 10, 1303), (39, 0, 9, 11, 1304), (42, 0, 9, 12, 1305), (45, 0, 9, 13, 1306), (48, 0, 9, 14, 1307), (51, 0, 9, 15, 1308), (54, 0, 9, 16, 1309), (57, 0, 9, 17, 1310), (60, 0, 9, 18, 1311), (63, 0, 9, 19, 1312), (142, 0, 9, 20, 1313), (146, 0, 9, 21, 1314), (149, 0, 9, 22, 1315), (152, 0, 9, 8, 1301), (165, 0, 9, 23, 1316), (178, 2, 119, 0, 1289), (262, 0, 9, 26, 1319), (283, 0, 9, 38, 1331), (305, 0, 9, 27, 1320), (340, 2, 124, 2, 1627), (347, 2, 150, 2, 1635), (351, 2, 154, 0, 1639)], none)
set_option maxRecDepth 100000 in
theorem mk_X9_commit : mx_mok (fun a => mt_nm[a]?) mt_X9_commit = true := sorry
def mt_X9_addWays : mM := (yX9_addWays, cX9_addWays, (6, none, 2, 9, 0), (1650, 1649, 119, 157),
  [(0, .iconst 0), (1, .istore_n 3), (2, .aload_n 0), (3, .dup), (4, .getfield 208), (7, .iconst 1), (8, .iadd), (9, .putfield 208), (12, .aload_n 0), (13, .getfield 110), (16, .iload_n 3), (17, .iinc 3 1), (20, .iload_n 1), (21, .iastore), (22, .iload_n 3), (23, .ifCond .le 138), (26, .iinc 3 (-1)), (29, .aload_n 0), (30, .getfield 110), (33, .iload_n 3), (34, .iaload), (35, .istore 4), (37, .aload_n 0), (38, .getfield 107), (41, .iload 4), (43, .iaload), (44, .aload_n 0), (45, .getfield 208), (48, .if_icmp .eq 110), (51, .aload_n 0), (52, .getfield 107), (55, .iload 4), (57, .aload_n 0), (58, .getfield 208), (61, .iastore), (62, .aload_n 0), (63, .getfield 7), (66, .iload 4), (68, .iaload), (69, .iconst 1), (70, .if_icmp .ne 46), (73, .bipush 80), (75, .aload_n 0), (76, .getfield 13), (79, .iload 4), (81, .iaload), (82, .imul), (83, .iload_n 2), (84, .iadd), (85, .istore 5), (87, .aload_n 0), (88, .getfield 69), (91, .iload 5), (93, .iload 4), (95, .iload_n 1), (96, .if_icmp .ne 14), (99, .aload_n 0), (100, .getfield 69), (103, .iload 5), (105, .iaload), (106, .iconst 2), (107, .if_icmp .ne 7), (110, .iconst 2), (111, .goto 4), (114, .iconst 1), (115, .iastore), (116, .iconst 0), (117, .istore 5), (119, .iload 5), (121, .aload_n 0), (122, .getfield 16), (125, .iload 4), (127, .iaload), (128, .if_icmp .ge 30), (131, .aload_n 0), (132, .getfield 110), (135, .iload_n 3), (136, .iinc 3 1), (139, .aload_n 0), (140, .getfield 20), (143, .iconst 4), (144, .iload 4), (146, .imul), (147, .iload 5), (149, .iadd), (150, .iaload), (151, .iastore), (152, .iinc 5 1), (155, .goto (-36)), (158, .goto (-136)), (161, .return_)],
  [(7, 0, 9, 0, 1293), (13, 0, 9, 1, 1294), (16, 0, 9, 2, 1295), (20, 0, 9, 3, 1296), (69, 0, 9, 39, 1332), (107, 0, 9, 59, 1352), (110, 0, 9, 61, 1354), (208, 0, 9, 60, 1353)], none)
set_option maxRecDepth 100000 in
theorem mk_X9_addWays : mx_mok (fun a => mt_nm[a]?) mt_X9_addWays = true := sorry
def mt_X9_waysOf : mM := (yX9_waysOf, cX9_waysOf, (5, none, 1, 9, 0), (1646, 1645, 118, 157),
  [(0, .iconst 0), (1, .istore_n 2), (2, .aload_n 0), (3, .dup), (4, .getfield 354), (7, .iconst 1), (8, .iadd), (9, .putfield 354), (12, .aload_n 0), (13, .getfield 131), (16, .iload_n 2), (17, .iinc 2 1), (20, .iload_n 1), (21, .iastore), (22, .iload_n 2), (23, .ifCond .le 117), (26, .iinc 2 (-1)), (29, .aload_n 0), (30, .getfield 131), (33, .iload_n 2), (34, .iaload), (35, .istore_n 3), (36, .aload_n 0), (37, .getfield 128), (40, .iload_n 3), (41, .iaload), (42, .aload_n 0), (43, .getfield 354), (46, .if_icmp .eq 91), (49, .aload_n 0), (50, .getfield 128), (53, .iload_n 3), (54, .aload_n 0), (55, .getfield 354), (58, .iastore), (59, .iconst 0), (60, .istore 4), (62, .iload 4), (64, .aload_n 0), (65, .getfield 16), (68, .iload_n 3), (69, .iaload), (70, .if_icmp .ge 67), (73, .aload_n 0), (74, .getfield 7), (77, .iload_n 3), (78, .iaload), (79, .ifCond .ne 32), (82, .aload_n 0), (83, .aload_n 0), (84, .getfield 20), (87, .iconst 4), (88, .iload_n 3), (89, .imul), (90, .iload 4), (92, .iadd), (93, .iaload), (94, .aload_n 0), (95, .getfield 39), (98, .aload_n 0), (99, .getfield 13), (102, .iload_n 3), (103, .iaload), (104, .iaload), (105, .iload 4), (107, .iadd), (108, .invokevirtual 357), (111, .aload_n 0), (112, .getfield 131), (115, .iload_n 2), (116, .iinc 2 1), (119, .aload_n 0), (120, .getfield 20), (123, .iconst 4), (124, .iload_n 3), (125, .imul), (126, .iload 4), (128, .iadd), (129, .iaload), (130, .iastore), (131, .iinc 4 1), (134, .goto (-72)), (137, .goto (-115)), (140, .return_)],
  [(7, 0, 9, 0, 1293), (13, 0, 9, 1, 1294), (16, 0, 9, 2, 1295), (20, 0, 9, 3, 1296), (39, 0, 9, 11, 1304), (128, 0, 9, 67, 1360), (131, 0, 9, 69, 1362), (354, 0, 9, 68, 1361), (357, 2, 152, 2, 1647)], none)
set_option maxRecDepth 100000 in
theorem mk_X9_waysOf : mx_mok (fun a => mt_nm[a]?) mt_X9_waysOf = true := sorry
def mt_X9_findWays : mM := (yX9_findWays, cX9_findWays, (4, none, 0, 9, 0), (1642, 1641, 117, 157),
  [(0, .iconst 0), (1, .istore_n 1), (2, .iload_n 1), (3, .sipush 6400), (6, .if_icmp .ge 16), (9, .aload_n 0), (10, .getfield 69), (13, .iload_n 1), (14, .iconst 0), (15, .iastore), (16, .iinc 1 1), (19, .goto (-17)), (22, .iconst 0), (23, .istore_n 1), (24, .iload_n 1), (25, .aload_n 0), (26, .getfield 142), (29, .if_icmp .ge 41), (32, .iconst 0), (33, .istore_n 2), (34, .iload_n 2), (35, .aload_n 0), (36, .getfield 48), (39, .iload_n 1), (40, .iaload), (41, .if_icmp .ge 23), (44, .aload_n 0), (45, .aload_n 0), (46, .getfield 45), (49, .iconst 4), (50, .iload_n 1), (51, .imul), (52, .iload_n 2), (53, .iadd), (54, .iaload), (55, .invokevirtual 360), (58, .iinc 2 1), (61, .goto (-27)), (64, .iinc 1 1), (67, .goto (-43)), (70, .iconst 0), (71, .istore_n 1), (72, .iload_n 1), (73, .aload_n 0), (74, .getfield 146), (77, .if_icmp .ge 41), (80, .iconst 0), (81, .istore_n 2), (82, .iload_n 2), (83, .aload_n 0), (84, .getfield 63), (87, .iload_n 1), (88, .iaload), (89, .if_icmp .ge 23), (92, .aload_n 0), (93, .aload_n 0), (94, .getfield 60), (97, .iconst 2), (98, .iload_n 1), (99, .imul), (100, .iload_n 2), (101, .iadd), (102, .iaload), (103, .invokevirtual 360), (106, .iinc 2 1), (109, .goto (-27)), (112, .iinc 1 1), (115, .goto (-43)), (118, .iconst 0), (119, .istore_n 1), (120, .iload_n 1), (121, .sipush 6400), (124, .if_icmp .ge 29), (127, .aload_n 0), (128, .getfield 72), (131, .iload_n 1), (132, .aload_n 0), (133, .getfield 69), (136, .iload_n 1), (137, .iaload), (138, .ifCond .le 7), (141, .iconst 1), (142, .goto 4), (145, .iconst 0), (146, .bastore), (147, .iinc 1 1), (150, .goto (-30)), (153, .iconst 0), (154, .istore_n 1), (155, .iload_n 1), (156, .aload_n 0), (157, .getfield 146), (160, .if_icmp .ge 99), (163, .iconst 0), (164, .istore_n 2), (165, .iload_n 2), (166, .aload_n 0), (167, .getfield 146), (170, .if_icmp .ge 83), (173, .iconst 0), (174, .istore_n 3), (175, .iload_n 3), (176, .aload_n 0), (177, .getfield 146), (180, .if_icmp .ge 67), (183, .aload_n 0), (184, .getfield 72), (187, .bipush 80), (189, .iload_n 2), (190, .imul), (191, .iload_n 3), (192, .iadd), (193, .aload_n 0), (194, .getfield 72), (197, .bipush 80), (199, .iload_n 2), (200, .imul), (201, .iload_n 3), (202, .iadd), (203, .baload), (204, .ifCond .ne 31), (207, .aload_n 0), (208, .getfield 72), (211, .bipush 80), (213, .iload_n 2), (214, .imul), (215, .iload_n 1), (216, .iadd), (217, .baload), (218, .ifCond .eq 21), (221, .aload_n 0), (222, .getfield 72), (225, .bipush 80), (227, .iload_n 1), (228, .imul), (229, .iload_n 3), (230, .iadd), (231, .baload), (232, .ifCond .eq 7), (235, .iconst 1), (236, .goto 4), (239, .iconst 0), (240, .bastore), (241, .iinc 3 1), (244, .goto (-69)), (247, .iinc 2 1), (250, .goto (-85)), (253, .iinc 1 1), (256, .goto (-101)), (259, .aload_n 0), (260, .iconst 0), (261, .putfield 168), (264, .iconst 0), (265, .istore_n 1), (266, .iload_n 1), (267, .aload_n 0), (268, .getfield 146), (271, .if_icmp .ge 33), (274, .aload_n 0), (275, .aload_n 0), (276, .getfield 168), (279, .ifCond .ne 11), (282, .aload_n 0), (283, .iload_n 1), (284, .invokevirtual 363), (287, .ifCond .eq 7), (290, .iconst 1), (291, .goto 4), (294, .iconst 0), (295, .putfield 168), (298, .iinc 1 1), (301, .goto (-35)), (304, .return_)],
  [(45, 0, 9, 13, 1306), (48, 0, 9, 14, 1307), (60, 0, 9, 18, 1311), (63, 0, 9, 19, 1312), (69, 0, 9, 39, 1332), (72, 0, 9, 40, 1333), (142, 0, 9, 20, 1313), (146, 0, 9, 21, 1314), (168, 0, 9, 41, 1334), (360, 2, 153, 1, 1643), (363, 2, 155, 1, 1651)], none)
set_option maxRecDepth 100000 in
theorem mk_X9_findWays : mx_mok (fun a => mt_nm[a]?) mt_X9_findWays = true := sorry
def mt_X9_isOnGrowing : mM := (yX9_isOnGrowing, cX9_isOnGrowing, (7, (some .boolean), 1, 9, 0), (1654, 1653, 120, 157),
  [(0, .iconst 0), (1, .istore_n 2), (2, .iconst 0), (3, .istore_n 3), (4, .iload_n 3), (5, .aload_n 0), (6, .getfield 146), (9, .if_icmp .ge 121), (12, .iload_n 2), (13, .ifCond .ne 117), (16, .iconst 0), (17, .istore 4), (19, .iload 4), (21, .aload_n 0), (22, .getfield 146), (25, .if_icmp .ge 99), (28, .iload_n 2), (29, .ifCond .ne 95), (32, .iload_n 3), (33, .iload_n 1), (34, .if_icmp .eq 17), (37, .aload_n 0), (38, .getfield 72), (41, .bipush 80), (43, .iload_n 1), (44, .imul), (45, .iload_n 3), (46, .iadd), (47, .baload), (48, .ifCond .eq 7), (51, .iconst 1), (52, .goto 4), (55, .iconst 0), (56, .istore 5), (58, .iload 4), (60, .iload_n 1), (61, .if_icmp .eq 18), (64, .aload_n 0), (65, .getfield 72), (68, .bipush 80), (70, .iload 4), (72, .imul), (73, .iload_n 1), (74, .iadd), (75, .baload), (76, .ifCond .eq 7), (79, .iconst 1), (80, .goto 4), (83, .iconst 0), (84, .istore 6), (86, .aload_n 0), (87, .getfield 69), (90, .bipush 80), (92, .iload_n 3), (93, .imul), (94, .iload 4), (96, .iadd), (97, .iaload), (98, .iconst 2), (99, .if_icmp .ne 17), (102, .iload 5), (104, .ifCond .eq 12), (107, .iload 6), (109, .ifCond .eq 7), (112, .iconst 1), (113, .goto 4), (116, .iconst 0), (117, .istore_n 2), (118, .iinc 4 1), (121, .goto (-102)), (124, .iinc 3 1), (127, .goto (-123)), (130, .iload_n 2), (131, .ireturn)],
  [(69, 0, 9, 39, 1332), (72, 0, 9, 40, 1333), (146, 0, 9, 21, 1314)], none)
set_option maxRecDepth 100000 in
theorem mk_X9_isOnGrowing : mx_mok (fun a => mt_nm[a]?) mt_X9_isOnGrowing = true := sorry
def mt_X9_readIn : mM := (yX9_readIn, cX9_readIn, (1, (some .boolean), 0, 9, 0), (1670, 1669, 123, 157),
  [(0, .aload_n 0), (1, .iconst (-1)), (2, .putfield 366), (5, .aload_n 0), (6, .getfield 231), (9, .sipush 258), (12, .if_icmp .eq 5), (15, .iconst 1), (16, .ireturn), (17, .aload_n 0), (18, .invokevirtual 259), (21, .aload_n 0), (22, .getfield 231), (25, .sipush 257), (28, .if_icmp .eq 9), (31, .aload_n 0), (32, .iconst 2), (33, .invokevirtual 256), (36, .ireturn), (37, .aload_n 0), (38, .aload_n 0), (39, .aload_n 0), (40, .invokevirtual 271), (43, .invokevirtual 279), (46, .putfield 366), (49, .aload_n 0), (50, .getfield 366), (53, .ifCond .ge 9), (56, .aload_n 0), (57, .iconst 4), (58, .invokevirtual 256), (61, .ireturn), (62, .aload_n 0), (63, .invokevirtual 259), (66, .aload_n 0), (67, .bipush 58), (69, .invokevirtual 308), (72, .ireturn)],
  [(231, 0, 9, 32, 1325), (256, 2, 133, 1, 1563), (259, 2, 131, 0, 1534), (271, 2, 135, 0, 1567), (279, 2, 136, 1, 1571), (308, 2, 134, 1, 1579), (366, 0, 9, 70, 1363)], none)
set_option maxRecDepth 100000 in
theorem mk_X9_readIn : mx_mok (fun a => mt_nm[a]?) mt_X9_readIn = true := sorry
def mt_X9_readQuestion : mM := (yX9_readQuestion, cX9_readQuestion, (1, (some .boolean), 0, 9, 0), (1666, 1665, 122, 157),
  [(0, .aload_n 0), (1, .invokevirtual 369), (4, .ifCond .ne 5), (7, .iconst 0), (8, .ireturn), (9, .aload_n 0), (10, .aload_n 0), (11, .aload_n 0), (12, .getfield 366), (15, .iconst 2), (16, .iconst 0), (17, .invokevirtual 311), (20, .putfield 372), (23, .aload_n 0), (24, .getfield 372), (27, .ifCond .lt 21), (30, .aload_n 0), (31, .bipush 60), (33, .invokevirtual 308), (36, .ifCond .eq 12), (39, .aload_n 0), (40, .bipush 61), (42, .invokevirtual 308), (45, .ifCond .ne 5), (48, .iconst 0), (49, .ireturn), (50, .aload_n 0), (51, .aload_n 0), (52, .aload_n 0), (53, .getfield 366), (56, .iconst 3), (57, .iconst 0), (58, .invokevirtual 311), (61, .putfield 375), (64, .aload_n 0), (65, .getfield 375), (68, .ifCond .lt 7), (71, .iconst 1), (72, .goto 4), (75, .iconst 0), (76, .ireturn)],
  [(308, 2, 134, 1, 1579), (311, 2, 142, 3, 1587), (366, 0, 9, 70, 1363), (369, 2, 156, 0, 1667), (372, 0, 9, 71, 1364), (375, 0, 9, 72, 1365)], none)
set_option maxRecDepth 100000 in
theorem mk_X9_readQuestion : mx_mok (fun a => mt_nm[a]?) mt_X9_readQuestion = true := sorry
def mt_X9_readPlace : mM := (yX9_readPlace, cX9_readPlace, (1, (some .boolean), 0, 9, 0), (1674, 1673, 124, 157),
  [(0, .aload_n 0), (1, .invokevirtual 369), (4, .ifCond .ne 5), (7, .iconst 0), (8, .ireturn), (9, .aload_n 0), (10, .aload_n 0), (11, .aload_n 0), (12, .getfield 366), (15, .iconst 4), (16, .iconst 0), (17, .invokevirtual 311), (20, .putfield 372), (23, .aload_n 0), (24, .getfield 372), (27, .ifCond .lt 13), (30, .aload_n 0), (31, .sipush 260), (34, .invokevirtual 308), (37, .ifCond .ne 5), (40, .iconst 0), (41, .ireturn), (42, .aload_n 0), (43, .getfield 231), (46, .sipush 257), (49, .if_icmp .eq 9), (52, .aload_n 0), (53, .iconst 2), (54, .invokevirtual 256), (57, .ireturn), (58, .aload_n 0), (59, .aload_n 0), (60, .aload_n 0), (61, .invokevirtual 271), (64, .invokevirtual 279), (67, .putfield 375), (70, .aload_n 0), (71, .getfield 375), (74, .ifCond .ge 9), (77, .aload_n 0), (78, .iconst 4), (79, .invokevirtual 256), (82, .ireturn), (83, .aload_n 0), (84, .invokevirtual 259), (87, .aload_n 0), (88, .getfield 231), (91, .sipush 256), (94, .if_icmp .eq 11), (97, .aload_n 0), (98, .iconst 2), (99, .invokevirtual 256), (102, .ifCond .eq 7), (105, .iconst 1), (106, .goto 4), (109, .iconst 0), (110, .ireturn)],
  [(231, 0, 9, 32, 1325), (256, 2, 133, 1, 1563), (259, 2, 131, 0, 1534), (271, 2, 135, 0, 1567), (279, 2, 136, 1, 1571), (308, 2, 134, 1, 1579), (311, 2, 142, 3, 1587), (366, 0, 9, 70, 1363), (369, 2, 156, 0, 1667), (372, 0, 9, 71, 1364), (375, 0, 9, 72, 1365)], none)
set_option maxRecDepth 100000 in
theorem mk_X9_readPlace : mx_mok (fun a => mt_nm[a]?) mt_X9_readPlace = true := sorry
def mt_X9_readTwice : mM := (yX9_readTwice, cX9_readTwice, (4, (some .boolean), 1, 9, 0), (1662, 1661, 121, 157),
  [(0, .aload_n 0), (1, .getfield 152), (4, .istore_n 2), (5, .aload_n 0), (6, .iconst 0), (7, .putfield 265), (10, .aload_n 0), (11, .iconst 0), (12, .putfield 268), (15, .aload_n 0), (16, .aload_n 0), (17, .getfield 142), (20, .putfield 262), (23, .aload_n 0), (24, .aload_n 0), (25, .getfield 146), (28, .putfield 305), (31, .aload_n 0), (32, .invokevirtual 333), (35, .iload_n 1), (36, .ifCond .eq 10), (39, .aload_n 0), (40, .invokevirtual 378), (43, .goto 7), (46, .aload_n 0), (47, .invokevirtual 381), (50, .istore_n 3), (51, .aload_n 0), (52, .aload_n 0), (53, .getfield 250), (56, .putfield 175), (59, .iload_n 3), (60, .ifCond .ne 11), (63, .aload_n 0), (64, .iconst 0), (65, .iload_n 2), (66, .invokevirtual 340), (69, .iconst 0), (70, .ireturn), (71, .aload_n 0), (72, .iconst 0), (73, .aload_n 0), (74, .getfield 165), (77, .invokevirtual 340), (80, .aload_n 0), (81, .iconst 0), (82, .putfield 222), (85, .aload_n 0), (86, .iconst 0), (87, .putfield 283), (90, .aload_n 0), (91, .invokevirtual 259), (94, .iload_n 1), (95, .ifCond .eq 10), (98, .aload_n 0), (99, .invokevirtual 378), (102, .goto 7), (105, .aload_n 0), (106, .invokevirtual 381), (109, .istore_n 3), (110, .aload_n 0), (111, .invokevirtual 178), (114, .iload_n 3), (115, .ireturn)],
  [(142, 0, 9, 20, 1313), (146, 0, 9, 21, 1314), (152, 0, 9, 8, 1301), (165, 0, 9, 23, 1316), (175, 0, 9, 37, 1330), (178, 2, 119, 0, 1289), (222, 0, 9, 31, 1324), (250, 0, 9, 35, 1328), (259, 2, 131, 0, 1534), (262, 0, 9, 26, 1319), (265, 0, 9, 24, 1317), (268, 0, 9, 25, 1318), (283, 0, 9, 38, 1331), (305, 0, 9, 27, 1320), (333, 2, 148, 0, 1530), (340, 2, 124, 2, 1627), (378, 2, 157, 0, 1663), (381, 2, 158, 0, 1671)], none)
set_option maxRecDepth 100000 in
theorem mk_X9_readTwice : mx_mok (fun a => mt_nm[a]?) mt_X9_readTwice = true := sorry
def mt_X9_isVariable : mM := (yX9_isVariable, cX9_isVariable, (2, (some .boolean), 1, 9, 0), (1694, 1693, 129, 157),
  [(0, .aload_n 0), (1, .getfield 7), (4, .iload_n 1), (5, .iaload), (6, .iconst 1), (7, .if_icmp .eq 13), (10, .aload_n 0), (11, .getfield 7), (14, .iload_n 1), (15, .iaload), (16, .iconst 2), (17, .if_icmp .ne 7), (20, .iconst 1), (21, .goto 4), (24, .iconst 0), (25, .ireturn)],
  [(7, 0, 9, 0, 1293)], none)
set_option maxRecDepth 100000 in
theorem mk_X9_isVariable : mx_mok (fun a => mt_nm[a]?) mt_X9_isVariable = true := sorry
def mt_X9_boundsOf : mM := (yX9_boundsOf, cX9_boundsOf, (3, (some .int), 1, 9, 0), (1722, 1721, 136, 157),
  [(0, .aload_n 0), (1, .getfield 7), (4, .iload_n 1), (5, .iaload), (6, .iconst 2), (7, .if_icmp .ne 17), (10, .aload_n 0), (11, .getfield 79), (14, .aload_n 0), (15, .getfield 13), (18, .iload_n 1), (19, .iaload), (20, .iaload), (21, .goto 14), (24, .aload_n 0), (25, .getfield 63), (28, .aload_n 0), (29, .getfield 13), (32, .iload_n 1), (33, .iaload), (34, .iaload), (35, .istore_n 2), (36, .iload_n 2), (37, .ifCond .ne 7), (40, .iconst 1), (41, .goto 4), (44, .iload_n 2), (45, .ireturn)],
  [(7, 0, 9, 0, 1293), (13, 0, 9, 1, 1294), (63, 0, 9, 19, 1312), (79, 0, 9, 43, 1336)], none)
set_option maxRecDepth 100000 in
theorem mk_X9_boundsOf : mx_mok (fun a => mt_nm[a]?) mt_X9_boundsOf = true := sorry
def mt_X9_boundOf : mM := (yX9_boundOf, cX9_boundOf, (3, (some .int), 2, 9, 0), (1698, 1697, 130, 157),
  [(0, .aload_n 0), (1, .getfield 7), (4, .iload_n 1), (5, .iaload), (6, .iconst 2), (7, .if_icmp .ne 42), (10, .aload_n 0), (11, .getfield 79), (14, .aload_n 0), (15, .getfield 13), (18, .iload_n 1), (19, .iaload), (20, .iaload), (21, .ifCond .ne 12), (24, .aload_n 0), (25, .getfield 51), (28, .iconst 0), (29, .iaload), (30, .goto 18), (33, .aload_n 0), (34, .getfield 76), (37, .iconst 3), (38, .aload_n 0), (39, .getfield 13), (42, .iload_n 1), (43, .iaload), (44, .imul), (45, .iload_n 2), (46, .iadd), (47, .iaload), (48, .ireturn), (49, .aload_n 0), (50, .getfield 63), (53, .aload_n 0), (54, .getfield 13), (57, .iload_n 1), (58, .iaload), (59, .iaload), (60, .ifCond .ne 12), (63, .aload_n 0), (64, .getfield 51), (67, .iconst 0), (68, .iaload), (69, .goto 18), (72, .aload_n 0), (73, .getfield 60), (76, .iconst 2), (77, .aload_n 0), (78, .getfield 13), (81, .iload_n 1), (82, .iaload), (83, .imul), (84, .iload_n 2), (85, .iadd), (86, .iaload), (87, .ireturn)],
  [(7, 0, 9, 0, 1293), (13, 0, 9, 1, 1294), (51, 0, 9, 15, 1308), (60, 0, 9, 18, 1311), (63, 0, 9, 19, 1312), (76, 0, 9, 42, 1335), (79, 0, 9, 43, 1336)], none)
set_option maxRecDepth 100000 in
theorem mk_X9_boundOf : mx_mok (fun a => mt_nm[a]?) mt_X9_boundOf = true := sorry
def mt_X9_captured : mM := (yX9_captured, cX9_captured, (10, (some .int), 1, 9, 0), (1702, 1701, 131, 157),
  [(0, .aload_n 0), (1, .getfield 13), (4, .iload_n 1), (5, .iaload), (6, .istore_n 2), (7, .aload_n 0), (8, .getfield 16), (11, .iload_n 1), (12, .iaload), (13, .istore_n 3), (14, .iconst 0), (15, .istore 4), (17, .iconst 0), (18, .istore 5), (20, .iload 5), (22, .iload_n 3), (23, .if_icmp .ge 39), (26, .iload 4), (28, .aload_n 0), (29, .getfield 7), (32, .aload_n 0), (33, .getfield 20), (36, .iconst 4), (37, .iload_n 1), (38, .imul), (39, .iload 5), (41, .iadd), (42, .iaload), (43, .iaload), (44, .iconst 3), (45, .if_icmp .lt 7), (48, .iconst 1), (49, .goto 4), (52, .iconst 0), (53, .iadd), (54, .istore 4), (56, .iinc 5 1), (59, .goto (-39)), (62, .iload 4), (64, .ifCond .ne 5), (67, .iload_n 1), (68, .ireturn), (69, .aload_n 0), (70, .getfield 187), (73, .iload 4), (75, .iadd), (76, .sipush 300), (79, .if_icmp .le 48), (82, .aload_n 0), (83, .getfield 187), (86, .sipush 300), (89, .if_icmp .ge 36), (92, .aload_n 0), (93, .getfield 79), (96, .aload_n 0), (97, .getfield 187), (100, .iconst 0), (101, .iastore), (102, .aload_n 0), (103, .getfield 82), (106, .aload_n 0), (107, .getfield 187), (110, .iconst (-1)), (111, .iastore), (112, .aload_n 0), (113, .dup), (114, .getfield 187), (117, .iconst 1), (118, .iadd), (119, .putfield 187), (122, .goto (-40)), (125, .iconst (-1)), (126, .ireturn), (127, .aload_n 0), (128, .getfield 187), (131, .istore 5), (133, .iconst 0), (134, .istore 6), (136, .iload 6), (138, .iload_n 3), (139, .if_icmp .ge 92), (142, .aload_n 0), (143, .getfield 20), (146, .iconst 4), (147, .iload_n 1), (148, .imul), (149, .iload 6), (151, .iadd), (152, .iaload), (153, .istore 7), (155, .aload_n 0), (156, .getfield 7), (159, .iload 7), (161, .iaload), (162, .iconst 3), (163, .if_icmp .lt 53), (166, .aload_n 0), (167, .getfield 79), (170, .aload_n 0), (171, .getfield 187), (174, .iconst 0), (175, .iastore), (176, .aload_n 0), (177, .getfield 82), (180, .aload_n 0), (181, .getfield 187), (184, .iconst (-1)), (185, .iastore), (186, .aload_n 0), (187, .getfield 134), (190, .iload 6), (192, .aload_n 0), (193, .iconst 2), (194, .aload_n 0), (195, .getfield 187), (198, .iconst 0), (199, .invokevirtual 161), (202, .iastore), (203, .aload_n 0), (204, .dup), (205, .getfield 187), (208, .iconst 1), (209, .iadd), (210, .putfield 187), (213, .goto 12), (216, .aload_n 0), (217, .getfield 134), (220, .iload 6), (222, .iload 7), (224, .iastore), (225, .iinc 6 1), (228, .goto (-92)), (231, .iconst 0), (232, .istore 6), (234, .iload 6), (236, .iload_n 3), (237, .if_icmp .ge 23), (240, .aload_n 0), (241, .getfield 32), (244, .iload 6), (246, .aload_n 0), (247, .getfield 134), (250, .iload 6), (252, .iaload), (253, .iastore), (254, .iinc 6 1), (257, .goto (-23)), (260, .aload_n 0), (261, .iconst 0), (262, .iload_n 2), (263, .iload_n 3), (264, .invokevirtual 161), (267, .istore 6), (269, .iload 5), (271, .istore 7), (273, .iconst 0), (274, .istore 8), (276, .iload 8), (278, .iload_n 3), (279, .if_icmp .ge 54), (282, .aload_n 0), (283, .getfield 20), (286, .iconst 4), (287, .iload_n 1), (288, .imul), (289, .iload 8), (291, .iadd), (292, .iaload), (293, .istore 9), (295, .aload_n 0), (296, .getfield 7), (299, .iload 9), (301, .iaload), (302, .iconst 3), (303, .if_icmp .lt 24), (306, .aload_n 0), (307, .iload 7), (309, .iload 9), (311, .iload_n 2), (312, .iload 8), (314, .iload 6), (316, .invokevirtual 384), (319, .ifCond .ne 5), (322, .iconst (-1)), (323, .ireturn), (324, .iinc 7 1), (327, .iinc 8 1), (330, .goto (-54)), (333, .iload 6), (335, .ireturn)],
  [(7, 0, 9, 0, 1293), (13, 0, 9, 1, 1294), (16, 0, 9, 2, 1295), (20, 0, 9, 3, 1296), (32, 0, 9, 9, 1302), (79, 0, 9, 43, 1336), (82, 0, 9, 44, 1337), (134, 0, 9, 73, 1366), (161, 2, 123, 3, 1275), (187, 0, 9, 45, 1338), (384, 2, 164, 5, 1703)], none)
set_option maxRecDepth 100000 in
theorem mk_X9_captured : mx_mok (fun a => mt_nm[a]?) mt_X9_captured = true := sorry
def mt_X9_bind : mM := (yX9_bind, cX9_bind, (9, (some .boolean), 5, 9, 0), (1706, 1705, 132, 157),
  [(0, .aload_n 0), (1, .getfield 7), (4, .iload_n 2), (5, .iaload), (6, .iconst 4), (7, .if_icmp .ne 26), (10, .aload_n 0), (11, .getfield 76), (14, .iconst 3), (15, .iload_n 1), (16, .imul), (17, .aload_n 0), (18, .getfield 20), (21, .iconst 4), (22, .iload_n 2), (23, .imul), (24, .iaload), (25, .iastore), (26, .aload_n 0), (27, .getfield 79), (30, .iload_n 1), (31, .iconst 1), (32, .iastore), (33, .aload_n 0), (34, .getfield 7), (37, .iload_n 2), (38, .iaload), (39, .iconst 5), (40, .if_icmp .ne 17), (43, .aload_n 0), (44, .getfield 82), (47, .iload_n 1), (48, .aload_n 0), (49, .getfield 20), (52, .iconst 4), (53, .iload_n 2), (54, .imul), (55, .iaload), (56, .iastore), (57, .aload_n 0), (58, .getfield 39), (61, .iload_n 3), (62, .iaload), (63, .iload 4), (65, .iadd), (66, .istore 6), (68, .iconst 0), (69, .istore 7), (71, .iload 7), (73, .aload_n 0), (74, .getfield 63), (77, .iload 6), (79, .iaload), (80, .if_icmp .ge 104), (83, .aload_n 0), (84, .getfield 60), (87, .iconst 2), (88, .iload 6), (90, .imul), (91, .iload 7), (93, .iadd), (94, .iaload), (95, .istore 8), (97, .aload_n 0), (98, .getfield 196), (101, .aload_n 0), (102, .getfield 23), (105, .iload 8), (107, .iaload), (108, .iadd), (109, .sipush 6000), (112, .if_icmp .le 5), (115, .iconst 0), (116, .ireturn), (117, .aload_n 0), (118, .dup), (119, .getfield 196), (122, .aload_n 0), (123, .getfield 23), (126, .iload 8), (128, .iaload), (129, .iadd), (130, .putfield 196), (133, .aload_n 0), (134, .getfield 76), (137, .iconst 3), (138, .iload_n 1), (139, .imul), (140, .aload_n 0), (141, .getfield 79), (144, .iload_n 1), (145, .iaload), (146, .iadd), (147, .aload_n 0), (148, .iload 8), (150, .aload_n 0), (151, .getfield 39), (154, .iload_n 3), (155, .iaload), (156, .aload_n 0), (157, .getfield 42), (160, .iload_n 3), (161, .iaload), (162, .iload 5), (164, .invokevirtual 315), (167, .iastore), (168, .aload_n 0), (169, .getfield 79), (172, .iload_n 1), (173, .dup2), (174, .iaload), (175, .iconst 1), (176, .iadd), (177, .iastore), (178, .iinc 7 1), (181, .goto (-110)), (184, .aload_n 0), (185, .getfield 79), (188, .iload_n 1), (189, .iaload), (190, .ifCond .ne 24), (193, .aload_n 0), (194, .getfield 76), (197, .iconst 3), (198, .iload_n 1), (199, .imul), (200, .aload_n 0), (201, .getfield 51), (204, .iconst 0), (205, .iaload), (206, .iastore), (207, .aload_n 0), (208, .getfield 79), (211, .iload_n 1), (212, .iconst 1), (213, .iastore), (214, .iconst 1), (215, .ireturn)],
  [(7, 0, 9, 0, 1293), (20, 0, 9, 3, 1296), (23, 0, 9, 4, 1297), (39, 0, 9, 11, 1304), (42, 0, 9, 12, 1305), (51, 0, 9, 15, 1308), (60, 0, 9, 18, 1311), (63, 0, 9, 19, 1312), (76, 0, 9, 42, 1335), (79, 0, 9, 43, 1336), (82, 0, 9, 44, 1337), (196, 0, 9, 48, 1341), (315, 2, 125, 4, 1619)], none)
set_option maxRecDepth 100000 in
theorem mk_X9_bind : mx_mok (fun a => mt_nm[a]?) mt_X9_bind = true := sorry
def mt_X9_aboveOf : mM := (yX9_aboveOf, cX9_aboveOf, (5, (some .int), 2, 9, 0), (1710, 1709, 133, 157),
  [(0, .aload_n 0), (1, .getfield 13), (4, .iload_n 1), (5, .iaload), (6, .istore_n 3), (7, .iload_n 3), (8, .iload_n 2), (9, .if_icmp .ne 5), (12, .iload_n 1), (13, .ireturn), (14, .aload_n 0), (15, .getfield 51), (18, .bipush 21), (20, .iload_n 3), (21, .imul), (22, .iload_n 2), (23, .iadd), (24, .iaload), (25, .istore 4), (27, .iload 4), (29, .ifCond .ge 5), (32, .iconst (-1)), (33, .ireturn), (34, .aload_n 0), (35, .getfield 196), (38, .aload_n 0), (39, .getfield 23), (42, .iload 4), (44, .iaload), (45, .iadd), (46, .sipush 6000), (49, .if_icmp .le 6), (52, .bipush (-2)), (54, .ireturn), (55, .aload_n 0), (56, .dup), (57, .getfield 196), (60, .aload_n 0), (61, .getfield 23), (64, .iload 4), (66, .iaload), (67, .iadd), (68, .putfield 196), (71, .aload_n 0), (72, .iload 4), (74, .aload_n 0), (75, .getfield 39), (78, .iload_n 3), (79, .iaload), (80, .aload_n 0), (81, .getfield 42), (84, .iload_n 3), (85, .iaload), (86, .iload_n 1), (87, .invokevirtual 315), (90, .ireturn)],
  [(13, 0, 9, 1, 1294), (23, 0, 9, 4, 1297), (39, 0, 9, 11, 1304), (42, 0, 9, 12, 1305), (51, 0, 9, 15, 1308), (196, 0, 9, 48, 1341), (315, 2, 125, 4, 1619)], none)
set_option maxRecDepth 100000 in
theorem mk_X9_aboveOf : mx_mok (fun a => mt_nm[a]?) mt_X9_aboveOf = true := sorry
def mt_X9_ask2 : mM := (yX9_ask2, cX9_ask2, (3, (some .boolean), 2, 9, 0), (1682, 1681, 126, 157),
  [(0, .aload_n 0), (1, .getfield 190), (4, .aload_n 0), (5, .getfield 388), (8, .if_icmp .eq 12), (11, .aload_n 0), (12, .getfield 391), (15, .bipush 40), (17, .if_icmp .ne 27), (20, .aload_n 0), (21, .aload_n 0), (22, .getfield 190), (25, .aload_n 0), (26, .getfield 388), (29, .if_icmp .ne 8), (32, .bipush (-3)), (34, .goto 5), (37, .bipush (-2)), (39, .putfield 394), (42, .iconst 0), (43, .ireturn), (44, .aload_n 0), (45, .getfield 85), (48, .aload_n 0), (49, .getfield 391), (52, .iload_n 1), (53, .iastore), (54, .aload_n 0), (55, .getfield 88), (58, .aload_n 0), (59, .getfield 391), (62, .iload_n 2), (63, .iastore), (64, .aload_n 0), (65, .getfield 91), (68, .aload_n 0), (69, .getfield 391), (72, .iconst 0), (73, .iastore), (74, .aload_n 0), (75, .dup), (76, .getfield 391), (79, .iconst 1), (80, .iadd), (81, .putfield 391), (84, .aload_n 0), (85, .dup), (86, .getfield 190), (89, .iconst 1), (90, .iadd), (91, .putfield 190), (94, .aload_n 0), (95, .aload_n 0), (96, .getfield 391), (99, .aload_n 0), (100, .getfield 193), (103, .if_icmp .le 10), (106, .aload_n 0), (107, .getfield 391), (110, .goto 7), (113, .aload_n 0), (114, .getfield 193), (117, .putfield 193), (120, .iconst 1), (121, .ireturn)],
  [(85, 0, 9, 49, 1342), (88, 0, 9, 50, 1343), (91, 0, 9, 51, 1344), (190, 0, 9, 46, 1339), (193, 0, 9, 47, 1340), (388, 0, 9, 75, 1368), (391, 0, 9, 74, 1367), (394, 0, 9, 76, 1369)], none)
set_option maxRecDepth 100000 in
theorem mk_X9_ask2 : mx_mok (fun a => mt_nm[a]?) mt_X9_ask2 = true := sorry
def mt_X9_pairs : mM := (yX9_pairs, cX9_pairs, (8, (some .int), 1, 9, 0), (1714, 1713, 134, 157),
  [(0, .aload_n 0), (1, .getfield 97), (4, .iload_n 1), (5, .iaload), (6, .istore_n 2), (7, .aload_n 0), (8, .getfield 88), (11, .iload_n 1), (12, .iaload), (13, .istore_n 3), (14, .aload_n 0), (15, .getfield 94), (18, .iload_n 1), (19, .iaload), (20, .aload_n 0), (21, .getfield 16), (24, .iload_n 3), (25, .iaload), (26, .if_icmp .ge 146), (29, .aload_n 0), (30, .getfield 20), (33, .iconst 4), (34, .iload_n 2), (35, .imul), (36, .aload_n 0), (37, .getfield 94), (40, .iload_n 1), (41, .iaload), (42, .iadd), (43, .iaload), (44, .istore 4), (46, .aload_n 0), (47, .getfield 20), (50, .iconst 4), (51, .iload_n 3), (52, .imul), (53, .aload_n 0), (54, .getfield 94), (57, .iload_n 1), (58, .iaload), (59, .iadd), (60, .iaload), (61, .istore 5), (63, .aload_n 0), (64, .getfield 94), (67, .iload_n 1), (68, .dup2), (69, .iaload), (70, .iconst 1), (71, .iadd), (72, .iastore), (73, .aload_n 0), (74, .getfield 7), (77, .iload 5), (79, .iaload), (80, .iconst 4), (81, .if_icmp .eq 14), (84, .aload_n 0), (85, .getfield 7), (88, .iload 5), (90, .iaload), (91, .iconst 5), (92, .if_icmp .ne 57), (95, .aload_n 0), (96, .getfield 20), (99, .iconst 4), (100, .iload 5), (102, .imul), (103, .iaload), (104, .istore 6), (106, .aload_n 0), (107, .getfield 7), (110, .iload 5), (112, .iaload), (113, .iconst 4), (114, .if_icmp .ne 14), (117, .aload_n 0), (118, .iload 4), (120, .iload 6), (122, .invokevirtual 397), (125, .goto 11), (128, .aload_n 0), (129, .iload 6), (131, .iload 4), (133, .invokevirtual 397), (136, .istore 7), (138, .iload 7), (140, .ifCond .eq 7), (143, .iconst 2), (144, .goto 4), (147, .iconst 3), (148, .ireturn), (149, .aload_n 0), (150, .getfield 7), (153, .iload 5), (155, .iaload), (156, .iconst 3), (157, .if_icmp .eq 12), (160, .iload 4), (162, .iload 5), (164, .if_icmp .eq 5), (167, .iconst 0), (168, .ireturn), (169, .goto (-155)), (172, .iconst 1), (173, .ireturn)],
  [(7, 0, 9, 0, 1293), (16, 0, 9, 2, 1295), (20, 0, 9, 3, 1296), (88, 0, 9, 50, 1343), (94, 0, 9, 52, 1345), (97, 0, 9, 53, 1346), (397, 2, 166, 2, 1679)], none)
set_option maxRecDepth 100000 in
theorem mk_X9_pairs : mx_mok (fun a => mt_nm[a]?) mt_X9_pairs = true := sorry
def mt_X9_opened : mM := (yX9_opened, cX9_opened, (4, (some .int), 1, 9, 0), (1686, 1685, 127, 157),
  [(0, .aload_n 0), (1, .getfield 85), (4, .iload_n 1), (5, .iaload), (6, .istore_n 2), (7, .aload_n 0), (8, .getfield 88), (11, .iload_n 1), (12, .iaload), (13, .istore_n 3), (14, .iload_n 2), (15, .iload_n 3), (16, .if_icmp .eq 13), (19, .iload_n 3), (20, .aload_n 0), (21, .getfield 51), (24, .iconst 0), (25, .iaload), (26, .if_icmp .ne 5), (29, .iconst 1), (30, .ireturn), (31, .aload_n 0), (32, .getfield 7), (35, .iload_n 3), (36, .iaload), (37, .iconst 2), (38, .if_icmp .ne 49), (41, .aload_n 0), (42, .getfield 82), (45, .aload_n 0), (46, .getfield 13), (49, .iload_n 3), (50, .iaload), (51, .iaload), (52, .ifCond .lt 35), (55, .aload_n 0), (56, .getfield 91), (59, .iload_n 1), (60, .iconst 1), (61, .iastore), (62, .aload_n 0), (63, .iload_n 2), (64, .aload_n 0), (65, .getfield 82), (68, .aload_n 0), (69, .getfield 13), (72, .iload_n 3), (73, .iaload), (74, .iaload), (75, .invokevirtual 397), (78, .ifCond .eq 7), (81, .iconst 2), (82, .goto 4), (85, .iconst 3), (86, .ireturn), (87, .aload_n 0), (88, .iload_n 1), (89, .invokevirtual 400), (92, .ireturn)],
  [(7, 0, 9, 0, 1293), (13, 0, 9, 1, 1294), (51, 0, 9, 15, 1308), (82, 0, 9, 44, 1337), (85, 0, 9, 49, 1342), (88, 0, 9, 50, 1343), (91, 0, 9, 51, 1344), (397, 2, 166, 2, 1679), (400, 2, 169, 1, 1687)], none)
set_option maxRecDepth 100000 in
theorem mk_X9_opened : mx_mok (fun a => mt_nm[a]?) mt_X9_opened = true := sorry
def mt_X9_behindFloor : mM := (yX9_behindFloor, cX9_behindFloor, (6, (some .int), 1, 9, 0), (1690, 1689, 128, 157),
  [(0, .aload_n 0), (1, .getfield 85), (4, .iload_n 1), (5, .iaload), (6, .istore_n 2), (7, .aload_n 0), (8, .getfield 88), (11, .iload_n 1), (12, .iaload), (13, .istore_n 3), (14, .aload_n 0), (15, .iload_n 2), (16, .invokevirtual 403), (19, .ifCond .eq 37), (22, .aload_n 0), (23, .getfield 91), (26, .iload_n 1), (27, .iconst 2), (28, .iastore), (29, .aload_n 0), (30, .getfield 94), (33, .iload_n 1), (34, .iconst 1), (35, .iastore), (36, .aload_n 0), (37, .aload_n 0), (38, .iload_n 2), (39, .iconst 0), (40, .invokevirtual 406), (43, .iload_n 3), (44, .invokevirtual 397), (47, .ifCond .eq 7), (50, .iconst 2), (51, .goto 4), (54, .iconst 3), (55, .ireturn), (56, .aload_n 0), (57, .iload_n 3), (58, .invokevirtual 403), (61, .ifCond .eq 5), (64, .iconst 0), (65, .ireturn), (66, .aload_n 0), (67, .iload_n 2), (68, .invokevirtual 409), (71, .istore 4), (73, .iload 4), (75, .ifCond .ge 8), (78, .bipush (-2)), (80, .goto 15), (83, .aload_n 0), (84, .iload 4), (86, .aload_n 0), (87, .getfield 13), (90, .iload_n 3), (91, .iaload), (92, .invokevirtual 412), (95, .istore 5), (97, .iload 5), (99, .bipush (-2)), (101, .if_icmp .ne 11), (104, .aload_n 0), (105, .bipush (-4)), (107, .putfield 394), (110, .iconst 3), (111, .ireturn), (112, .iload 5), (114, .ifCond .ge 5), (117, .iconst 0), (118, .ireturn), (119, .aload_n 0), (120, .getfield 97), (123, .iload_n 1), (124, .iload 5), (126, .iastore), (127, .aload_n 0), (128, .getfield 91), (131, .iload_n 1), (132, .iconst 3), (133, .iastore), (134, .aload_n 0), (135, .getfield 94), (138, .iload_n 1), (139, .iconst 0), (140, .iastore), (141, .aload_n 0), (142, .iload_n 1), (143, .invokevirtual 415), (146, .ireturn)],
  [(13, 0, 9, 1, 1294), (85, 0, 9, 49, 1342), (88, 0, 9, 50, 1343), (91, 0, 9, 51, 1344), (94, 0, 9, 52, 1345), (97, 0, 9, 53, 1346), (394, 0, 9, 76, 1369), (397, 2, 166, 2, 1679), (403, 2, 160, 1, 1691), (406, 2, 162, 2, 1695), (409, 2, 163, 1, 1699), (412, 2, 165, 2, 1707), (415, 2, 167, 1, 1711)], none)
set_option maxRecDepth 100000 in
theorem mk_X9_behindFloor : mx_mok (fun a => mt_nm[a]?) mt_X9_behindFloor = true := sorry
def mt_X9_resumed : mM := (yX9_resumed, cX9_resumed, (3, (some .int), 2, 9, 0), (1718, 1717, 135, 157),
  [(0, .aload_n 0), (1, .getfield 91), (4, .iload_n 1), (5, .iaload), (6, .iconst 1), (7, .if_icmp .ne 18), (10, .iload_n 2), (11, .iconst 1), (12, .if_icmp .ne 7), (15, .iconst 1), (16, .goto 8), (19, .aload_n 0), (20, .iload_n 1), (21, .invokevirtual 400), (24, .ireturn), (25, .aload_n 0), (26, .getfield 91), (29, .iload_n 1), (30, .iaload), (31, .iconst 2), (32, .if_icmp .ne 78), (35, .iload_n 2), (36, .iconst 1), (37, .if_icmp .ne 5), (40, .iconst 1), (41, .ireturn), (42, .aload_n 0), (43, .getfield 94), (46, .iload_n 1), (47, .iaload), (48, .aload_n 0), (49, .aload_n 0), (50, .getfield 85), (53, .iload_n 1), (54, .iaload), (55, .invokevirtual 418), (58, .if_icmp .ne 5), (61, .iconst 0), (62, .ireturn), (63, .aload_n 0), (64, .getfield 94), (67, .iload_n 1), (68, .dup2), (69, .iaload), (70, .iconst 1), (71, .iadd), (72, .iastore), (73, .aload_n 0), (74, .aload_n 0), (75, .aload_n 0), (76, .getfield 85), (79, .iload_n 1), (80, .iaload), (81, .aload_n 0), (82, .getfield 94), (85, .iload_n 1), (86, .iaload), (87, .iconst 1), (88, .isub), (89, .invokevirtual 406), (92, .aload_n 0), (93, .getfield 88), (96, .iload_n 1), (97, .iaload), (98, .invokevirtual 397), (101, .ifCond .eq 7), (104, .iconst 2), (105, .goto 4), (108, .iconst 3), (109, .ireturn), (110, .iload_n 2), (111, .ifCond .ne 7), (114, .iconst 0), (115, .goto 8), (118, .aload_n 0), (119, .iload_n 1), (120, .invokevirtual 415), (123, .ireturn)],
  [(85, 0, 9, 49, 1342), (88, 0, 9, 50, 1343), (91, 0, 9, 51, 1344), (94, 0, 9, 52, 1345), (397, 2, 166, 2, 1679), (400, 2, 169, 1, 1687), (406, 2, 162, 2, 1695), (415, 2, 167, 1, 1711), (418, 2, 161, 1, 1719)], none)
set_option maxRecDepth 100000 in
theorem mk_X9_resumed : mx_mok (fun a => mt_nm[a]?) mt_X9_resumed = true := sorry
def mt_X9_questions : mM := (yX9_questions, cX9_questions, (6, (some .int), 3, 9, 0), (1678, 1677, 125, 157),
  [(0, .aload_n 0), (1, .iconst 0), (2, .putfield 391), (5, .aload_n 0), (6, .iload_n 3), (7, .putfield 388), (10, .aload_n 0), (11, .iconst 0), (12, .putfield 394), (15, .aload_n 0), (16, .iload_n 1), (17, .iload_n 2), (18, .invokevirtual 397), (21, .ifCond .ne 8), (24, .aload_n 0), (25, .getfield 394), (28, .ireturn), (29, .iconst 2), (30, .istore 4), (32, .aload_n 0), (33, .getfield 391), (36, .ifCond .le 62), (39, .aload_n 0), (40, .getfield 391), (43, .iconst 1), (44, .isub), (45, .istore 5), (47, .iload 4), (49, .iconst 2), (50, .if_icmp .ne 12), (53, .aload_n 0), (54, .iload 5), (56, .invokevirtual 421), (59, .goto 11), (62, .aload_n 0), (63, .iload 5), (65, .iload 4), (67, .invokevirtual 424), (70, .istore 4), (72, .iload 4), (74, .iconst 3), (75, .if_icmp .ne 8), (78, .aload_n 0), (79, .getfield 394), (82, .ireturn), (83, .iload 4), (85, .iconst 2), (86, .if_icmp .eq 9), (89, .aload_n 0), (90, .iload 5), (92, .putfield 391), (95, .goto (-63)), (98, .iload 4), (100, .ireturn)],
  [(388, 0, 9, 75, 1368), (391, 0, 9, 74, 1367), (394, 0, 9, 76, 1369), (397, 2, 166, 2, 1679), (421, 2, 168, 1, 1683), (424, 2, 170, 2, 1715)], none)
set_option maxRecDepth 100000 in
theorem mk_X9_questions : mx_mok (fun a => mt_nm[a]?) mt_X9_questions = true := sorry
def mt_X9_ask : mM := (yX9_ask, cX9_ask, (2, (some .int), 1, 9, 0), (1658, 1656, 1657, 157),
  [(0, .aload_n 0), (1, .iload_n 1), (2, .ifCond .lt 10), (5, .iload_n 1), (6, .sipush 3000), (9, .if_icmp .le 7), (12, .iconst 1), (13, .goto 4), (16, .iconst 0), (17, .putfield 330), (20, .aload_n 0), (21, .getfield 330), (24, .ifCond .le 5), (27, .iconst 0), (28, .ireturn), (29, .aload_n 0), (30, .iconst 1), (31, .invokevirtual 427), (34, .ifCond .eq 19), (37, .aload_n 0), (38, .aload_n 0), (39, .getfield 372), (42, .aload_n 0), (43, .getfield 375), (46, .iload_n 1), (47, .invokevirtual 431), (50, .goto 10), (53, .bipush (-10)), (55, .aload_n 0), (56, .getfield 253), (59, .isub), (60, .ireturn)],
  [(253, 0, 9, 36, 1329), (330, 0, 9, 54, 1347), (372, 0, 9, 71, 1364), (375, 0, 9, 72, 1365), (427, 2, 159, 1, 1659), (431, 2, 171, 3, 1675)], none)
set_option maxRecDepth 100000 in
theorem mk_X9_ask : mx_mok (fun a => mt_nm[a]?) mt_X9_ask = true := sorry
def mt_X9_above : mM := (yX9_above, cX9_above, (3, (some .int), 0, 9, 0), (1726, 1724, 1725, 157),
  [(0, .aload_n 0), (1, .iconst 0), (2, .putfield 330), (5, .aload_n 0), (6, .iconst 0), (7, .invokevirtual 427), (10, .ifCond .ne 11), (13, .bipush (-10)), (15, .aload_n 0), (16, .getfield 253), (19, .isub), (20, .ireturn), (21, .aload_n 0), (22, .getfield 372), (25, .istore_n 1), (26, .aload_n 0), (27, .getfield 375), (30, .ifCond .ne 13), (33, .aload_n 0), (34, .getfield 51), (37, .iconst 0), (38, .iaload), (39, .istore_n 1), (40, .goto 94), (43, .aload_n 0), (44, .aload_n 0), (45, .getfield 372), (48, .invokevirtual 403), (51, .ifCond .eq 5), (54, .iconst 0), (55, .ireturn), (56, .aload_n 0), (57, .getfield 13), (60, .aload_n 0), (61, .getfield 372), (64, .iaload), (65, .aload_n 0), (66, .getfield 375), (69, .if_icmp .eq 65), (72, .aload_n 0), (73, .getfield 51), (76, .bipush 21), (78, .aload_n 0), (79, .getfield 13), (82, .aload_n 0), (83, .getfield 372), (86, .iaload), (87, .imul), (88, .aload_n 0), (89, .getfield 375), (92, .iadd), (93, .iaload), (94, .ifCond .ge 5), (97, .iconst 0), (98, .ireturn), (99, .aload_n 0), (100, .aload_n 0), (101, .getfield 372), (104, .invokevirtual 409), (107, .istore_n 2), (108, .iload_n 2), (109, .ifCond .ge 8), (112, .bipush (-2)), (114, .goto 12), (117, .aload_n 0), (118, .iload_n 2), (119, .aload_n 0), (120, .getfield 375), (123, .invokevirtual 412), (126, .istore_n 1), (127, .iload_n 1), (128, .ifCond .ge 6), (131, .bipush (-4)), (133, .ireturn), (134, .aload_n 0), (135, .iload_n 1), (136, .invokevirtual 434), (139, .aload_n 0), (140, .getfield 181), (143, .ireturn)],
  [(13, 0, 9, 1, 1294), (51, 0, 9, 15, 1308), (181, 0, 9, 56, 1349), (253, 0, 9, 36, 1329), (330, 0, 9, 54, 1347), (372, 0, 9, 71, 1364), (375, 0, 9, 72, 1365), (403, 2, 160, 1, 1691), (409, 2, 163, 1, 1699), (412, 2, 165, 2, 1707), (427, 2, 159, 1, 1659), (434, 2, 177, 1, 1727)], none)
set_option maxRecDepth 100000 in
theorem mk_X9_above : mx_mok (fun a => mt_nm[a]?) mt_X9_above = true := sorry
def mt_X9_sign : mM := (yX9_sign, cX9_sign, (2, none, 1, 9, 0), (1742, 1741, 140, 157),
  [(0, .aload_n 0), (1, .getfield 181), (4, .sipush 1000), (7, .if_icmp .ge 24), (10, .aload_n 0), (11, .getfield 100), (14, .aload_n 0), (15, .getfield 181), (18, .iload_n 1), (19, .i2b), (20, .bastore), (21, .aload_n 0), (22, .dup), (23, .getfield 181), (26, .iconst 1), (27, .iadd), (28, .putfield 181), (31, .return_)],
  [(100, 0, 9, 55, 1348), (181, 0, 9, 56, 1349)], none)
set_option maxRecDepth 100000 in
theorem mk_X9_sign : mx_mok (fun a => mt_nm[a]?) mt_X9_sign = true := sorry
def mt_X9_signs : mM := (yX9_signs, cX9_signs, (5, none, 1, 9, 0), (1738, 1737, 139, 157),
  [(0, .bipush 56), (2, .istore_n 3), (3, .iload_n 3), (4, .ifCond .lt 30), (7, .lload_n 1), (8, .iload_n 3), (9, .lshr), (10, .l2i), (11, .sipush 255), (14, .iand), (15, .istore 4), (17, .iload 4), (19, .ifCond .eq 9), (22, .aload_n 0), (23, .iload 4), (25, .invokevirtual 437), (28, .iinc 3 (-8)), (31, .goto (-28)), (34, .return_)],
  [(437, 2, 174, 1, 1739)], none)
set_option maxRecDepth 100000 in
theorem mk_X9_signs : mx_mok (fun a => mt_nm[a]?) mt_X9_signs = true := sorry
def mt_X9_head : mM := (yX9_head, cX9_head, (3, none, 1, 9, 0), (1734, 1733, 138, 157),
  [(0, .aload_n 0), (1, .getfield 7), (4, .iload_n 1), (5, .iaload), (6, .ifCond .ne 21), (9, .aload_n 0), (10, .aload_n 0), (11, .getfield 35), (14, .aload_n 0), (15, .getfield 13), (18, .iload_n 1), (19, .iaload), (20, .laload), (21, .invokevirtual 440), (24, .goto 142), (27, .aload_n 0), (28, .getfield 7), (31, .iload_n 1), (32, .iaload), (33, .iconst 1), (34, .if_icmp .ne 21), (37, .aload_n 0), (38, .aload_n 0), (39, .getfield 54), (42, .aload_n 0), (43, .getfield 13), (46, .iload_n 1), (47, .iaload), (48, .laload), (49, .invokevirtual 440), (52, .goto 114), (55, .aload_n 0), (56, .getfield 7), (59, .iload_n 1), (60, .iaload), (61, .iconst 2), (62, .if_icmp .ne 67), (65, .aload_n 0), (66, .bipush 35), (68, .invokevirtual 437), (71, .aload_n 0), (72, .getfield 13), (75, .iload_n 1), (76, .iaload), (77, .istore_n 2), (78, .iload_n 2), (79, .bipush 99), (81, .if_icmp .le 14), (84, .aload_n 0), (85, .bipush 48), (87, .iload_n 2), (88, .bipush 100), (90, .idiv), (91, .iadd), (92, .invokevirtual 437), (95, .iload_n 2), (96, .bipush 9), (98, .if_icmp .le 17), (101, .aload_n 0), (102, .bipush 48), (104, .iload_n 2), (105, .bipush 10), (107, .idiv), (108, .bipush 10), (110, .irem), (111, .iadd), (112, .invokevirtual 437), (115, .aload_n 0), (116, .bipush 48), (118, .iload_n 2), (119, .bipush 10), (121, .irem), (122, .iadd), (123, .invokevirtual 437), (126, .goto 40), (129, .aload_n 0), (130, .bipush 63), (132, .invokevirtual 437), (135, .aload_n 0), (136, .getfield 7), (139, .iload_n 1), (140, .iaload), (141, .iconst 3), (142, .if_icmp .eq 24), (145, .aload_n 0), (146, .aload_n 0), (147, .getfield 7), (150, .iload_n 1), (151, .iaload), (152, .iconst 4), (153, .if_icmp .ne 8), (156, .bipush 58), (158, .goto 5), (161, .bipush 94), (163, .invokevirtual 437), (166, .return_)],
  [(7, 0, 9, 0, 1293), (13, 0, 9, 1, 1294), (35, 0, 9, 10, 1303), (54, 0, 9, 16, 1309), (437, 2, 174, 1, 1739), (440, 2, 175, 1, 1735)], none)
set_option maxRecDepth 100000 in
theorem mk_X9_head : mx_mok (fun a => mt_nm[a]?) mt_X9_head = true := sorry
def mt_X9_write : mM := (yX9_write, cX9_write, (5, none, 1, 9, 0), (1730, 1729, 137, 157),
  [(0, .aload_n 0), (1, .iconst 0), (2, .putfield 181), (5, .iconst 0), (6, .istore_n 2), (7, .aload_n 0), (8, .getfield 131), (11, .iconst 0), (12, .iload_n 1), (13, .iastore), (14, .aload_n 0), (15, .getfield 110), (18, .iconst 0), (19, .iconst 0), (20, .iastore), (21, .iconst 1), (22, .istore_n 2), (23, .iload_n 2), (24, .ifCond .le 146), (27, .aload_n 0), (28, .getfield 181), (31, .sipush 1000), (34, .if_icmp .ge 136), (37, .aload_n 0), (38, .getfield 131), (41, .iload_n 2), (42, .iconst 1), (43, .isub), (44, .iaload), (45, .istore_n 3), (46, .aload_n 0), (47, .getfield 110), (50, .iload_n 2), (51, .iconst 1), (52, .isub), (53, .iaload), (54, .istore 4), (56, .iload 4), (58, .ifCond .ne 8), (61, .aload_n 0), (62, .iload_n 3), (63, .invokevirtual 444), (66, .iload 4), (68, .aload_n 0), (69, .getfield 16), (72, .iload_n 3), (73, .iaload), (74, .if_icmp .ne 29), (77, .aload_n 0), (78, .getfield 7), (81, .iload_n 3), (82, .iaload), (83, .ifCond .ne 14), (86, .iload 4), (88, .ifCond .le 9), (91, .aload_n 0), (92, .bipush 62), (94, .invokevirtual 437), (97, .iinc 2 (-1)), (100, .goto 67), (103, .aload_n 0), (104, .getfield 7), (107, .iload_n 3), (108, .iaload), (109, .ifCond .ne 19), (112, .aload_n 0), (113, .iload 4), (115, .ifCond .ne 8), (118, .bipush 60), (120, .goto 5), (123, .bipush 44), (125, .invokevirtual 437), (128, .aload_n 0), (129, .getfield 110), (132, .iload_n 2), (133, .iconst 1), (134, .isub), (135, .iload 4), (137, .iconst 1), (138, .iadd), (139, .iastore), (140, .aload_n 0), (141, .getfield 131), (144, .iload_n 2), (145, .aload_n 0), (146, .getfield 20), (149, .iconst 4), (150, .iload_n 3), (151, .imul), (152, .iload 4), (154, .iadd), (155, .iaload), (156, .iastore), (157, .aload_n 0), (158, .getfield 110), (161, .iload_n 2), (162, .iconst 0), (163, .iastore), (164, .iinc 2 1), (167, .goto (-144)), (170, .return_)],
  [(7, 0, 9, 0, 1293), (16, 0, 9, 2, 1295), (20, 0, 9, 3, 1296), (110, 0, 9, 61, 1354), (131, 0, 9, 69, 1362), (181, 0, 9, 56, 1349), (437, 2, 174, 1, 1739), (444, 2, 176, 1, 1731)], none)
set_option maxRecDepth 100000 in
theorem mk_X9_write : mx_mok (fun a => mt_nm[a]?) mt_X9_write = true := sorry
def mt_X9_variable : mM := (yX9_variable, cX9_variable, (3, (some .int), 2, 9, 0), (1746, 1744, 1745, 157),
  [(0, .aload_n 0), (1, .iload_n 1), (2, .ifCond .lt 11), (5, .iload_n 1), (6, .aload_n 0), (7, .getfield 187), (10, .if_icmp .lt 7), (13, .iconst 1), (14, .goto 4), (17, .iconst 0), (18, .putfield 330), (21, .aload_n 0), (22, .getfield 330), (25, .ifCond .le 5), (28, .iconst 0), (29, .ireturn), (30, .iload_n 2), (31, .iconst (-1)), (32, .if_icmp .ne 27), (35, .aload_n 0), (36, .getfield 82), (39, .iload_n 1), (40, .iaload), (41, .ifCond .lt 18), (44, .aload_n 0), (45, .aload_n 0), (46, .getfield 82), (49, .iload_n 1), (50, .iaload), (51, .invokevirtual 434), (54, .aload_n 0), (55, .getfield 181), (58, .ireturn), (59, .iload_n 2), (60, .ifCond .lt 32), (63, .iload_n 2), (64, .aload_n 0), (65, .getfield 79), (68, .iload_n 1), (69, .iaload), (70, .if_icmp .ge 22), (73, .aload_n 0), (74, .aload_n 0), (75, .getfield 76), (78, .iconst 3), (79, .iload_n 1), (80, .imul), (81, .iload_n 2), (82, .iadd), (83, .iaload), (84, .invokevirtual 434), (87, .aload_n 0), (88, .getfield 181), (91, .ireturn), (92, .iconst 0), (93, .ireturn)],
  [(76, 0, 9, 42, 1335), (79, 0, 9, 43, 1336), (82, 0, 9, 44, 1337), (181, 0, 9, 56, 1349), (187, 0, 9, 45, 1338), (330, 0, 9, 54, 1347), (434, 2, 177, 1, 1727)], none)
set_option maxRecDepth 100000 in
theorem mk_X9_variable : mx_mok (fun a => mt_nm[a]?) mt_X9_variable = true := sorry
def mt_X9_written : mM := (yX9_written, cX9_written, (2, (some .int), 1, 9, 0), (1750, 1748, 1749, 157),
  [(0, .aload_n 0), (1, .iload_n 1), (2, .ifCond .lt 11), (5, .iload_n 1), (6, .aload_n 0), (7, .getfield 181), (10, .if_icmp .lt 7), (13, .iconst 1), (14, .goto 4), (17, .iconst 0), (18, .putfield 330), (21, .aload_n 0), (22, .getfield 330), (25, .ifCond .le 7), (28, .iconst 0), (29, .goto 13), (32, .aload_n 0), (33, .getfield 100), (36, .iload_n 1), (37, .baload), (38, .sipush 255), (41, .iand), (42, .ireturn)],
  [(100, 0, 9, 55, 1348), (181, 0, 9, 56, 1349), (330, 0, 9, 54, 1347)], none)
set_option maxRecDepth 100000 in
theorem mk_X9_written : mx_mok (fun a => mt_nm[a]?) mt_X9_written = true := sorry
def mt_X9_feed : mM := (yX9_feed, cX9_feed, (5, (some .int), 2, 9, 0), (1754, 1752, 1753, 157),
  [(0, .aload_n 0), (1, .iload_n 3), (2, .iconst 1), (3, .if_icmp .lt 9), (6, .iload_n 3), (7, .bipush 8), (9, .if_icmp .le 7), (12, .iconst 1), (13, .goto 20), (16, .aload_n 0), (17, .getfield 172), (20, .iload_n 3), (21, .iadd), (22, .sipush 800), (25, .if_icmp .le 7), (28, .iconst 2), (29, .goto 4), (32, .iconst 0), (33, .putfield 330), (36, .aload_n 0), (37, .getfield 330), (40, .ifCond .le 5), (43, .iconst 0), (44, .ireturn), (45, .iload_n 3), (46, .iconst 1), (47, .isub), (48, .istore 4), (50, .iload 4), (52, .ifCond .lt 40), (55, .aload_n 0), (56, .getfield 66), (59, .aload_n 0), (60, .getfield 172), (63, .lload_n 1), (64, .bipush 8), (66, .iload 4), (68, .imul), (69, .lshr), (70, .l2i), (71, .sipush 255), (74, .iand), (75, .iastore), (76, .aload_n 0), (77, .dup), (78, .getfield 172), (81, .iconst 1), (82, .iadd), (83, .putfield 172), (86, .iinc 4 (-1)), (89, .goto (-39)), (92, .aload_n 0), (93, .getfield 172), (96, .ireturn)],
  [(66, 0, 9, 28, 1321), (172, 0, 9, 29, 1322), (330, 0, 9, 54, 1347)], none)
set_option maxRecDepth 100000 in
theorem mk_X9_feed : mx_mok (fun a => mt_nm[a]?) mt_X9_feed = true := sorry
def mt_X9_fault : mM := (yX9_fault, cX9_fault, (1, (some .int), 0, 9, 0), (1758, 1756, 1757, 157),
  [(0, .aload_n 0), (1, .iconst 0), (2, .putfield 330), (5, .aload_n 0), (6, .getfield 175), (9, .ireturn)],
  [(175, 0, 9, 37, 1330), (330, 0, 9, 54, 1347)], none)
set_option maxRecDepth 100000 in
theorem mk_X9_fault : mx_mok (fun a => mt_nm[a]?) mt_X9_fault = true := sorry
def mt_X9_isClass : mM := (yX9_isClass, cX9_isClass, (3, (some .boolean), 1, 9, 0), (1766, 1765, 141, 157),
  [(0, .iload_n 1), (1, .ifCond .lt 15), (4, .iload_n 1), (5, .aload_n 0), (6, .getfield 142), (9, .if_icmp .ge 7), (12, .iconst 1), (13, .goto 4), (16, .iconst 0), (17, .istore_n 2), (18, .aload_n 0), (19, .iload_n 2), (20, .ifCond .eq 10), (23, .aload_n 0), (24, .getfield 330), (27, .goto 4), (30, .iconst 1), (31, .putfield 330), (34, .iload_n 2), (35, .ireturn)],
  [(142, 0, 9, 20, 1313), (330, 0, 9, 54, 1347)], none)
set_option maxRecDepth 100000 in
theorem mk_X9_isClass : mx_mok (fun a => mt_nm[a]?) mt_X9_isClass = true := sorry
def mt_X9_cls : mM := (yX9_cls, cX9_cls, (5, (some .long), 2, 9, 0), (1762, 1760, 1761, 157),
  [(0, .aload_n 0), (1, .iconst 0), (2, .putfield 330), (5, .aload_n 0), (6, .iload_n 1), (7, .invokevirtual 447), (10, .ifCond .ne 5), (13, .lconst 0), (14, .lreturn), (15, .iload_n 2), (16, .tableswitch 123 0 4 #[36, 44, 52, 93, 100]), (52, .aload_n 0), (53, .getfield 42), (56, .iload_n 1), (57, .iaload), (58, .i2l), (59, .lreturn), (60, .aload_n 0), (61, .getfield 48), (64, .iload_n 1), (65, .iaload), (66, .i2l), (67, .lreturn), (68, .iconst 0), (69, .istore_n 3), (70, .iconst 0), (71, .istore 4), (73, .iload 4), (75, .aload_n 0), (76, .getfield 142), (79, .if_icmp .ge 27), (82, .iload_n 3), (83, .aload_n 0), (84, .iload_n 1), (85, .iload 4), (87, .invokevirtual 450), (90, .ifCond .eq 7), (93, .iconst 1), (94, .goto 4), (97, .iconst 0), (98, .iadd), (99, .istore_n 3), (100, .iinc 4 1), (103, .goto (-30)), (106, .iload_n 3), (107, .i2l), (108, .lreturn), (109, .aload_n 0), (110, .getfield 35), (113, .iload_n 1), (114, .laload), (115, .lreturn), (116, .aload_n 0), (117, .getfield 42), (120, .iload_n 1), (121, .iaload), (122, .ifCond .ne 9), (125, .ldc2_w 453), (128, .goto 10), (131, .aload_n 0), (132, .getfield 39), (135, .iload_n 1), (136, .iaload), (137, .i2l), (138, .lreturn), (139, .aload_n 0), (140, .iconst 2), (141, .putfield 330), (144, .lconst 0), (145, .lreturn)],
  [(35, 0, 9, 10, 1303), (39, 0, 9, 11, 1304), (42, 0, 9, 12, 1305), (48, 0, 9, 14, 1307), (142, 0, 9, 20, 1313), (330, 0, 9, 54, 1347), (447, 2, 182, 1, 1763), (450, 2, 184, 2, 1767), (453, 11, 0, 1771, -1)], none)
set_option maxRecDepth 100000 in
theorem mk_X9_cls : mx_mok (fun a => mt_nm[a]?) mt_X9_cls = true := sorry
def mt_X9_isOver : mM := (yX9_isOver, cX9_isOver, (3, (some .boolean), 2, 9, 0), (1770, 1769, 142, 157),
  [(0, .iload_n 1), (1, .iload_n 2), (2, .if_icmp .eq 26), (5, .iload_n 2), (6, .ifCond .eq 22), (9, .iload_n 2), (10, .iload_n 1), (11, .if_icmp .ge 21), (14, .aload_n 0), (15, .getfield 51), (18, .bipush 21), (20, .iload_n 1), (21, .imul), (22, .iload_n 2), (23, .iadd), (24, .iaload), (25, .ifCond .lt 7), (28, .iconst 1), (29, .goto 4), (32, .iconst 0), (33, .ireturn)],
  [(51, 0, 9, 15, 1308)], none)
set_option maxRecDepth 100000 in
theorem mk_X9_isOver : mx_mok (fun a => mt_nm[a]?) mt_X9_isOver = true := sorry
def mt_X9_isAbove : mM := (yX9_isAbove, cX9_isAbove, (3, (some .int), 2, 9, 0), (1775, 1773, 1774, 157),
  [(0, .aload_n 0), (1, .iconst 0), (2, .putfield 330), (5, .aload_n 0), (6, .iload_n 1), (7, .invokevirtual 447), (10, .ifCond .eq 24), (13, .aload_n 0), (14, .iload_n 2), (15, .invokevirtual 447), (18, .ifCond .eq 16), (21, .aload_n 0), (22, .iload_n 1), (23, .iload_n 2), (24, .invokevirtual 450), (27, .ifCond .eq 7), (30, .iconst 1), (31, .goto 4), (34, .iconst 0), (35, .ireturn)],
  [(330, 0, 9, 54, 1347), (447, 2, 182, 1, 1763), (450, 2, 184, 2, 1767)], none)
set_option maxRecDepth 100000 in
theorem mk_X9_isAbove : mx_mok (fun a => mt_nm[a]?) mt_X9_isAbove = true := sorry
def mt_X9_isParam : mM := (yX9_isParam, cX9_isParam, (3, (some .boolean), 1, 9, 0), (1783, 1782, 143, 157),
  [(0, .iload_n 1), (1, .ifCond .lt 15), (4, .iload_n 1), (5, .aload_n 0), (6, .getfield 146), (9, .if_icmp .ge 7), (12, .iconst 1), (13, .goto 4), (16, .iconst 0), (17, .istore_n 2), (18, .aload_n 0), (19, .iload_n 2), (20, .ifCond .eq 10), (23, .aload_n 0), (24, .getfield 330), (27, .goto 4), (30, .iconst 1), (31, .putfield 330), (34, .iload_n 2), (35, .ireturn)],
  [(146, 0, 9, 21, 1314), (330, 0, 9, 54, 1347)], none)
set_option maxRecDepth 100000 in
theorem mk_X9_isParam : mx_mok (fun a => mt_nm[a]?) mt_X9_isParam = true := sorry
def mt_X9_parameter : mM := (yX9_parameter, cX9_parameter, (3, (some .long), 2, 9, 0), (1779, 1777, 1778, 157),
  [(0, .aload_n 0), (1, .iconst 0), (2, .putfield 330), (5, .aload_n 0), (6, .iload_n 1), (7, .invokevirtual 455), (10, .ifCond .ne 5), (13, .lconst 0), (14, .lreturn), (15, .iload_n 2), (16, .tableswitch 69 0 3 #[32, 40, 48, 55]), (48, .aload_n 0), (49, .getfield 57), (52, .iload_n 1), (53, .iaload), (54, .i2l), (55, .lreturn), (56, .aload_n 0), (57, .getfield 63), (60, .iload_n 1), (61, .iaload), (62, .i2l), (63, .lreturn), (64, .aload_n 0), (65, .getfield 54), (68, .iload_n 1), (69, .laload), (70, .lreturn), (71, .aload_n 0), (72, .iload_n 1), (73, .invokevirtual 363), (76, .ifCond .eq 7), (79, .lconst 1), (80, .goto 4), (83, .lconst 0), (84, .lreturn), (85, .aload_n 0), (86, .iconst 2), (87, .putfield 330), (90, .lconst 0), (91, .lreturn)],
  [(54, 0, 9, 16, 1309), (57, 0, 9, 17, 1310), (63, 0, 9, 19, 1312), (330, 0, 9, 54, 1347), (363, 2, 155, 1, 1651), (455, 2, 186, 1, 1780)], none)
set_option maxRecDepth 100000 in
theorem mk_X9_parameter : mx_mok (fun a => mt_nm[a]?) mt_X9_parameter = true := sorry
def mt_X9_way : mM := (yX9_way, cX9_way, (3, (some .int), 2, 9, 0), (1787, 1785, 1786, 157),
  [(0, .aload_n 0), (1, .iconst 0), (2, .putfield 330), (5, .aload_n 0), (6, .iload_n 1), (7, .invokevirtual 455), (10, .ifCond .eq 25), (13, .aload_n 0), (14, .iload_n 2), (15, .invokevirtual 455), (18, .ifCond .eq 17), (21, .aload_n 0), (22, .getfield 69), (25, .bipush 80), (27, .iload_n 1), (28, .imul), (29, .iload_n 2), (30, .iadd), (31, .iaload), (32, .goto 4), (35, .iconst 0), (36, .ireturn)],
  [(69, 0, 9, 39, 1332), (330, 0, 9, 54, 1347), (455, 2, 186, 1, 1780)], none)
set_option maxRecDepth 100000 in
theorem mk_X9_way : mx_mok (fun a => mt_nm[a]?) mt_X9_way = true := sorry
def mt_X9_told : mM := (yX9_told, cX9_told, (2, (some .int), 1, 9, 0), (1791, 1789, 1790, 157),
  [(0, .aload_n 0), (1, .iconst 0), (2, .putfield 330), (5, .iload_n 1), (6, .tableswitch 112 0 9 #[54, 59, 64, 69, 74, 79, 84, 89, 94, 99]), (60, .aload_n 0), (61, .getfield 190), (64, .ireturn), (65, .aload_n 0), (66, .getfield 193), (69, .ireturn), (70, .aload_n 0), (71, .getfield 187), (74, .ireturn), (75, .aload_n 0), (76, .getfield 196), (79, .ireturn), (80, .aload_n 0), (81, .getfield 142), (84, .ireturn), (85, .aload_n 0), (86, .getfield 146), (89, .ireturn), (90, .aload_n 0), (91, .getfield 149), (94, .ireturn), (95, .aload_n 0), (96, .getfield 172), (99, .ireturn), (100, .aload_n 0), (101, .getfield 181), (104, .ireturn), (105, .aload_n 0), (106, .getfield 168), (109, .ifCond .eq 7), (112, .iconst 1), (113, .goto 4), (116, .iconst 0), (117, .ireturn), (118, .aload_n 0), (119, .iconst 1), (120, .putfield 330), (123, .iconst 0), (124, .ireturn)],
  [(142, 0, 9, 20, 1313), (146, 0, 9, 21, 1314), (149, 0, 9, 22, 1315), (168, 0, 9, 41, 1334), (172, 0, 9, 29, 1322), (181, 0, 9, 56, 1349), (187, 0, 9, 45, 1338), (190, 0, 9, 46, 1339), (193, 0, 9, 47, 1340), (196, 0, 9, 48, 1341), (330, 0, 9, 54, 1347)], none)
set_option maxRecDepth 100000 in
theorem mk_X9_told : mx_mok (fun a => mt_nm[a]?) mt_X9_told = true := sorry
def mt_X9_clear : mM := (yX9_clear, cX9_clear, (1, none, 0, 9, 0), (1795, 1793, 1794, 157),
  [(0, .aload_n 0), (1, .iconst 0), (2, .putfield 330), (5, .aload_n 0), (6, .invokevirtual 137), (9, .return_)],
  [(137, 2, 118, 0, 1266), (330, 0, 9, 54, 1347)], none)
set_option maxRecDepth 100000 in
theorem mk_X9_clear : mx_mok (fun a => mt_nm[a]?) mt_X9_clear = true := sorry
def mt_X9_thrown : mM := (yX9_thrown, cX9_thrown, (1, (some .int), 0, 9, 0), (1799, 1797, 1798, 157),
  [(0, .aload_n 0), (1, .getfield 330), (4, .ireturn)],
  [(330, 0, 9, 54, 1347)], none)
set_option maxRecDepth 100000 in
theorem mk_X9_thrown : mx_mok (fun a => mt_nm[a]?) mt_X9_thrown = true := sorry
end
section
/-! ### the table -/
def mt_t0 : List mM := [mt_X0_init, mt_X0_startOver, mt_X0_tellOwnBounds, mt_X0_nodeOf, mt_X0_nodeAbove, mt_X0_below, mt_X0_boundsBelow, mt_X0_classBelow, mt_X0_argBelow, mt_X0_captureArgs, mt_X0_bind, mt_X0_addBound, mt_X0_raise, mt_X0_count, mt_X0_floorOf, mt_X0_boundOf, mt_X0_boundOfNew, mt_X1_init, mt_X1_startOver, mt_X1_startArgs, mt_X1_addArg, mt_X1_addOwn, mt_X1_addAny, mt_X1_inherit, mt_X1_sizeWithArgs]
theorem mk_t0 : ∀ M ∈ mt_t0, mx_mok (fun a => mt_nm[a]?) M = true := List.forall_mem_cons.mpr ⟨mk_X0_init, List.forall_mem_cons.mpr ⟨mk_X0_startOver, List.forall_mem_cons.mpr ⟨mk_X0_tellOwnBounds, List.forall_mem_cons.mpr ⟨mk_X0_nodeOf, List.forall_mem_cons.mpr ⟨mk_X0_nodeAbove, List.forall_mem_cons.mpr ⟨mk_X0_below, List.forall_mem_cons.mpr ⟨mk_X0_boundsBelow, List.forall_mem_cons.mpr ⟨mk_X0_classBelow, List.forall_mem_cons.mpr ⟨mk_X0_argBelow, List.forall_mem_cons.mpr ⟨mk_X0_captureArgs, List.forall_mem_cons.mpr ⟨mk_X0_bind, List.forall_mem_cons.mpr ⟨mk_X0_addBound, List.forall_mem_cons.mpr ⟨mk_X0_raise, List.forall_mem_cons.mpr ⟨mk_X0_count, List.forall_mem_cons.mpr ⟨mk_X0_floorOf, List.forall_mem_cons.mpr ⟨mk_X0_boundOf, List.forall_mem_cons.mpr ⟨mk_X0_boundOfNew, List.forall_mem_cons.mpr ⟨mk_X1_init, List.forall_mem_cons.mpr ⟨mk_X1_startOver, List.forall_mem_cons.mpr ⟨mk_X1_startArgs, List.forall_mem_cons.mpr ⟨mk_X1_addArg, List.forall_mem_cons.mpr ⟨mk_X1_addOwn, List.forall_mem_cons.mpr ⟨mk_X1_addAny, List.forall_mem_cons.mpr ⟨mk_X1_inherit, List.forall_mem_cons.mpr ⟨mk_X1_sizeWithArgs, fun _ h => absurd h List.not_mem_nil⟩⟩⟩⟩⟩⟩⟩⟩⟩⟩⟩⟩⟩⟩⟩⟩⟩⟩⟩⟩⟩⟩⟩⟩⟩
def mt_t1 : List mM := [mt_X1_writeArg, mt_X1_isSame, mt_X1_makeRoom, mt_X1_write, mt_X2_init, mt_X2_writeType, mt_X2_openType, mt_X2_writeHead, mt_X2_writeName, mt_X2_writeNumber, mt_X2_write, mt_X3_init, mt_X3_start, mt_X3_readTable, mt_X3_readQuestion, mt_X3_readPlace, mt_X3_opening, mt_X3_declaration, mt_X3_parameterNames, mt_X3_bounds, mt_X3_isBehindBound, mt_X3_boundName, mt_X3_supers, mt_X3_type, mt_X3_args]
theorem mk_t1 : ∀ M ∈ mt_t1, mx_mok (fun a => mt_nm[a]?) M = true := List.forall_mem_cons.mpr ⟨mk_X1_writeArg, List.forall_mem_cons.mpr ⟨mk_X1_isSame, List.forall_mem_cons.mpr ⟨mk_X1_makeRoom, List.forall_mem_cons.mpr ⟨mk_X1_write, List.forall_mem_cons.mpr ⟨mk_X2_init, List.forall_mem_cons.mpr ⟨mk_X2_writeType, List.forall_mem_cons.mpr ⟨mk_X2_openType, List.forall_mem_cons.mpr ⟨mk_X2_writeHead, List.forall_mem_cons.mpr ⟨mk_X2_writeName, List.forall_mem_cons.mpr ⟨mk_X2_writeNumber, List.forall_mem_cons.mpr ⟨mk_X2_write, List.forall_mem_cons.mpr ⟨mk_X3_init, List.forall_mem_cons.mpr ⟨mk_X3_start, List.forall_mem_cons.mpr ⟨mk_X3_readTable, List.forall_mem_cons.mpr ⟨mk_X3_readQuestion, List.forall_mem_cons.mpr ⟨mk_X3_readPlace, List.forall_mem_cons.mpr ⟨mk_X3_opening, List.forall_mem_cons.mpr ⟨mk_X3_declaration, List.forall_mem_cons.mpr ⟨mk_X3_parameterNames, List.forall_mem_cons.mpr ⟨mk_X3_bounds, List.forall_mem_cons.mpr ⟨mk_X3_isBehindBound, List.forall_mem_cons.mpr ⟨mk_X3_boundName, List.forall_mem_cons.mpr ⟨mk_X3_supers, List.forall_mem_cons.mpr ⟨mk_X3_type, List.forall_mem_cons.mpr ⟨mk_X3_args, fun _ h => absurd h List.not_mem_nil⟩⟩⟩⟩⟩⟩⟩⟩⟩⟩⟩⟩⟩⟩⟩⟩⟩⟩⟩⟩⟩⟩⟩⟩⟩
def mt_t2 : List mM := [mt_X3_wild, mt_X3_behindType, mt_X3_tell, mt_X3_fail, mt_X4_init, mt_X4_startOver, mt_X4_addClass, mt_X4_addParameter, mt_X4_addBound, mt_X4_addSuper, mt_X4_findClass, mt_X4_findParameter, mt_X4_headOf, mt_X4_arity, mt_X4_endOfPart, mt_X4_overLength, mt_X4_overStart, mt_X4_countOver, mt_X4_closeClass, mt_X4_inheritAll, mt_X5_init, mt_X5_append, mt_X5_cut, mt_X5_nameSize, mt_X5_nameOf]
theorem mk_t2 : ∀ M ∈ mt_t2, mx_mok (fun a => mt_nm[a]?) M = true := List.forall_mem_cons.mpr ⟨mk_X3_wild, List.forall_mem_cons.mpr ⟨mk_X3_behindType, List.forall_mem_cons.mpr ⟨mk_X3_tell, List.forall_mem_cons.mpr ⟨mk_X3_fail, List.forall_mem_cons.mpr ⟨mk_X4_init, List.forall_mem_cons.mpr ⟨mk_X4_startOver, List.forall_mem_cons.mpr ⟨mk_X4_addClass, List.forall_mem_cons.mpr ⟨mk_X4_addParameter, List.forall_mem_cons.mpr ⟨mk_X4_addBound, List.forall_mem_cons.mpr ⟨mk_X4_addSuper, List.forall_mem_cons.mpr ⟨mk_X4_findClass, List.forall_mem_cons.mpr ⟨mk_X4_findParameter, List.forall_mem_cons.mpr ⟨mk_X4_headOf, List.forall_mem_cons.mpr ⟨mk_X4_arity, List.forall_mem_cons.mpr ⟨mk_X4_endOfPart, List.forall_mem_cons.mpr ⟨mk_X4_overLength, List.forall_mem_cons.mpr ⟨mk_X4_overStart, List.forall_mem_cons.mpr ⟨mk_X4_countOver, List.forall_mem_cons.mpr ⟨mk_X4_closeClass, List.forall_mem_cons.mpr ⟨mk_X4_inheritAll, List.forall_mem_cons.mpr ⟨mk_X5_init, List.forall_mem_cons.mpr ⟨mk_X5_append, List.forall_mem_cons.mpr ⟨mk_X5_cut, List.forall_mem_cons.mpr ⟨mk_X5_nameSize, List.forall_mem_cons.mpr ⟨mk_X5_nameOf, fun _ h => absurd h List.not_mem_nil⟩⟩⟩⟩⟩⟩⟩⟩⟩⟩⟩⟩⟩⟩⟩⟩⟩⟩⟩⟩⟩⟩⟩⟩⟩
def mt_t3 : List mM := [mt_X5_kindOf, mt_X5_isLetter, mt_X5_isNameByte, mt_X5_opensArgs, mt_X5_step, mt_X6_init, mt_X6_startOver, mt_X6_head, mt_X6_part, mt_X6_partsOf, mt_X6_leaf, mt_X6_put, mt_X6_make, mt_X6_hasParts, mt_X7_init, mt_X7_measure, mt_X7_addWays, mt_X7_closeReach, mt_X7_joinReach, mt_X7_markRounds, mt_X7_markRound, mt_X7_leads, mt_X8_init, mt_X8_feed, mt_X8_read]
theorem mk_t3 : ∀ M ∈ mt_t3, mx_mok (fun a => mt_nm[a]?) M = true := List.forall_mem_cons.mpr ⟨mk_X5_kindOf, List.forall_mem_cons.mpr ⟨mk_X5_isLetter, List.forall_mem_cons.mpr ⟨mk_X5_isNameByte, List.forall_mem_cons.mpr ⟨mk_X5_opensArgs, List.forall_mem_cons.mpr ⟨mk_X5_step, List.forall_mem_cons.mpr ⟨mk_X6_init, List.forall_mem_cons.mpr ⟨mk_X6_startOver, List.forall_mem_cons.mpr ⟨mk_X6_head, List.forall_mem_cons.mpr ⟨mk_X6_part, List.forall_mem_cons.mpr ⟨mk_X6_partsOf, List.forall_mem_cons.mpr ⟨mk_X6_leaf, List.forall_mem_cons.mpr ⟨mk_X6_put, List.forall_mem_cons.mpr ⟨mk_X6_make, List.forall_mem_cons.mpr ⟨mk_X6_hasParts, List.forall_mem_cons.mpr ⟨mk_X7_init, List.forall_mem_cons.mpr ⟨mk_X7_measure, List.forall_mem_cons.mpr ⟨mk_X7_addWays, List.forall_mem_cons.mpr ⟨mk_X7_closeReach, List.forall_mem_cons.mpr ⟨mk_X7_joinReach, List.forall_mem_cons.mpr ⟨mk_X7_markRounds, List.forall_mem_cons.mpr ⟨mk_X7_markRound, List.forall_mem_cons.mpr ⟨mk_X7_leads, List.forall_mem_cons.mpr ⟨mk_X8_init, List.forall_mem_cons.mpr ⟨mk_X8_feed, List.forall_mem_cons.mpr ⟨mk_X8_read, fun _ h => absurd h List.not_mem_nil⟩⟩⟩⟩⟩⟩⟩⟩⟩⟩⟩⟩⟩⟩⟩⟩⟩⟩⟩⟩⟩⟩⟩⟩⟩
def mt_t4 : List mM := [mt_X8_fault, mt_X8_cls, mt_X8_isAbove, mt_X8_parameter, mt_X8_way, mt_X8_ask, mt_X8_told, mt_X8_above, mt_X8_variable, mt_X8_written, mt_X8_clear, mt_X8_at, mt_X8_nameAt, mt_X8_set, mt_X8_isClass, mt_X8_isParameter, mt_X8_isWild, mt_X9_init, mt_X9_anew, mt_X9_forgetAsked, mt_X9_clearHeads, mt_X9_slotOf, mt_X9_isLike, mt_X9_make, mt_X9_chainAgain]
theorem mk_t4 : ∀ M ∈ mt_t4, mx_mok (fun a => mt_nm[a]?) M = true := List.forall_mem_cons.mpr ⟨mk_X8_fault, List.forall_mem_cons.mpr ⟨mk_X8_cls, List.forall_mem_cons.mpr ⟨mk_X8_isAbove, List.forall_mem_cons.mpr ⟨mk_X8_parameter, List.forall_mem_cons.mpr ⟨mk_X8_way, List.forall_mem_cons.mpr ⟨mk_X8_ask, List.forall_mem_cons.mpr ⟨mk_X8_told, List.forall_mem_cons.mpr ⟨mk_X8_above, List.forall_mem_cons.mpr ⟨mk_X8_variable, List.forall_mem_cons.mpr ⟨mk_X8_written, List.forall_mem_cons.mpr ⟨mk_X8_clear, List.forall_mem_cons.mpr ⟨mk_X8_at, List.forall_mem_cons.mpr ⟨mk_X8_nameAt, List.forall_mem_cons.mpr ⟨mk_X8_set, List.forall_mem_cons.mpr ⟨mk_X8_isClass, List.forall_mem_cons.mpr ⟨mk_X8_isParameter, List.forall_mem_cons.mpr ⟨mk_X8_isWild, List.forall_mem_cons.mpr ⟨mk_X9_init, List.forall_mem_cons.mpr ⟨mk_X9_anew, List.forall_mem_cons.mpr ⟨mk_X9_forgetAsked, List.forall_mem_cons.mpr ⟨mk_X9_clearHeads, List.forall_mem_cons.mpr ⟨mk_X9_slotOf, List.forall_mem_cons.mpr ⟨mk_X9_isLike, List.forall_mem_cons.mpr ⟨mk_X9_make, List.forall_mem_cons.mpr ⟨mk_X9_chainAgain, fun _ h => absurd h List.not_mem_nil⟩⟩⟩⟩⟩⟩⟩⟩⟩⟩⟩⟩⟩⟩⟩⟩⟩⟩⟩⟩⟩⟩⟩⟩⟩
def mt_t5 : List mM := [mt_X9_substitute, mt_X9_substituted, mt_X9_isLetter, mt_X9_isPart, mt_X9_isSign, mt_X9_nameAt, mt_X9_pass, mt_X9_isBefore, mt_X9_fail, mt_X9_want, mt_X9_name, mt_X9_findClass, mt_X9_findParam, mt_X9_mayStandBehind, mt_X9_openType, mt_X9_addArg, mt_X9_closed, mt_X9_readType, mt_X9_readHead, mt_X9_readBounds, mt_X9_readSupers, mt_X9_findAbove, mt_X9_readDecl, mt_X9_begin, mt_X9_read]
theorem mk_t5 : ∀ M ∈ mt_t5, mx_mok (fun a => mt_nm[a]?) M = true := List.forall_mem_cons.mpr ⟨mk_X9_substitute, List.forall_mem_cons.mpr ⟨mk_X9_substituted, List.forall_mem_cons.mpr ⟨mk_X9_isLetter, List.forall_mem_cons.mpr ⟨mk_X9_isPart, List.forall_mem_cons.mpr ⟨mk_X9_isSign, List.forall_mem_cons.mpr ⟨mk_X9_nameAt, List.forall_mem_cons.mpr ⟨mk_X9_pass, List.forall_mem_cons.mpr ⟨mk_X9_isBefore, List.forall_mem_cons.mpr ⟨mk_X9_fail, List.forall_mem_cons.mpr ⟨mk_X9_want, List.forall_mem_cons.mpr ⟨mk_X9_name, List.forall_mem_cons.mpr ⟨mk_X9_findClass, List.forall_mem_cons.mpr ⟨mk_X9_findParam, List.forall_mem_cons.mpr ⟨mk_X9_mayStandBehind, List.forall_mem_cons.mpr ⟨mk_X9_openType, List.forall_mem_cons.mpr ⟨mk_X9_addArg, List.forall_mem_cons.mpr ⟨mk_X9_closed, List.forall_mem_cons.mpr ⟨mk_X9_readType, List.forall_mem_cons.mpr ⟨mk_X9_readHead, List.forall_mem_cons.mpr ⟨mk_X9_readBounds, List.forall_mem_cons.mpr ⟨mk_X9_readSupers, List.forall_mem_cons.mpr ⟨mk_X9_findAbove, List.forall_mem_cons.mpr ⟨mk_X9_readDecl, List.forall_mem_cons.mpr ⟨mk_X9_begin, List.forall_mem_cons.mpr ⟨mk_X9_read, fun _ h => absurd h List.not_mem_nil⟩⟩⟩⟩⟩⟩⟩⟩⟩⟩⟩⟩⟩⟩⟩⟩⟩⟩⟩⟩⟩⟩⟩⟩⟩
def mt_t6 : List mM := [mt_X9_down, mt_X9_commit, mt_X9_addWays, mt_X9_waysOf, mt_X9_findWays, mt_X9_isOnGrowing, mt_X9_readIn, mt_X9_readQuestion, mt_X9_readPlace, mt_X9_readTwice, mt_X9_isVariable, mt_X9_boundsOf, mt_X9_boundOf, mt_X9_captured, mt_X9_bind, mt_X9_aboveOf, mt_X9_ask2, mt_X9_pairs, mt_X9_opened, mt_X9_behindFloor, mt_X9_resumed, mt_X9_questions, mt_X9_ask, mt_X9_above, mt_X9_sign]
theorem mk_t6 : ∀ M ∈ mt_t6, mx_mok (fun a => mt_nm[a]?) M = true := List.forall_mem_cons.mpr ⟨mk_X9_down, List.forall_mem_cons.mpr ⟨mk_X9_commit, List.forall_mem_cons.mpr ⟨mk_X9_addWays, List.forall_mem_cons.mpr ⟨mk_X9_waysOf, List.forall_mem_cons.mpr ⟨mk_X9_findWays, List.forall_mem_cons.mpr ⟨mk_X9_isOnGrowing, List.forall_mem_cons.mpr ⟨mk_X9_readIn, List.forall_mem_cons.mpr ⟨mk_X9_readQuestion, List.forall_mem_cons.mpr ⟨mk_X9_readPlace, List.forall_mem_cons.mpr ⟨mk_X9_readTwice, List.forall_mem_cons.mpr ⟨mk_X9_isVariable, List.forall_mem_cons.mpr ⟨mk_X9_boundsOf, List.forall_mem_cons.mpr ⟨mk_X9_boundOf, List.forall_mem_cons.mpr ⟨mk_X9_captured, List.forall_mem_cons.mpr ⟨mk_X9_bind, List.forall_mem_cons.mpr ⟨mk_X9_aboveOf, List.forall_mem_cons.mpr ⟨mk_X9_ask2, List.forall_mem_cons.mpr ⟨mk_X9_pairs, List.forall_mem_cons.mpr ⟨mk_X9_opened, List.forall_mem_cons.mpr ⟨mk_X9_behindFloor, List.forall_mem_cons.mpr ⟨mk_X9_resumed, List.forall_mem_cons.mpr ⟨mk_X9_questions, List.forall_mem_cons.mpr ⟨mk_X9_ask, List.forall_mem_cons.mpr ⟨mk_X9_above, List.forall_mem_cons.mpr ⟨mk_X9_sign, fun _ h => absurd h List.not_mem_nil⟩⟩⟩⟩⟩⟩⟩⟩⟩⟩⟩⟩⟩⟩⟩⟩⟩⟩⟩⟩⟩⟩⟩⟩⟩
def mt_t7 : List mM := [mt_X9_signs, mt_X9_head, mt_X9_write, mt_X9_variable, mt_X9_written, mt_X9_feed, mt_X9_fault, mt_X9_isClass, mt_X9_cls, mt_X9_isOver, mt_X9_isAbove, mt_X9_isParam, mt_X9_parameter, mt_X9_way, mt_X9_told, mt_X9_clear, mt_X9_thrown, mt_J7_fill_53178]
theorem mk_t7 : ∀ M ∈ mt_t7, mx_mok (fun a => mt_nm[a]?) M = true := List.forall_mem_cons.mpr ⟨mk_X9_signs, List.forall_mem_cons.mpr ⟨mk_X9_head, List.forall_mem_cons.mpr ⟨mk_X9_write, List.forall_mem_cons.mpr ⟨mk_X9_variable, List.forall_mem_cons.mpr ⟨mk_X9_written, List.forall_mem_cons.mpr ⟨mk_X9_feed, List.forall_mem_cons.mpr ⟨mk_X9_fault, List.forall_mem_cons.mpr ⟨mk_X9_isClass, List.forall_mem_cons.mpr ⟨mk_X9_cls, List.forall_mem_cons.mpr ⟨mk_X9_isOver, List.forall_mem_cons.mpr ⟨mk_X9_isAbove, List.forall_mem_cons.mpr ⟨mk_X9_isParam, List.forall_mem_cons.mpr ⟨mk_X9_parameter, List.forall_mem_cons.mpr ⟨mk_X9_way, List.forall_mem_cons.mpr ⟨mk_X9_told, List.forall_mem_cons.mpr ⟨mk_X9_clear, List.forall_mem_cons.mpr ⟨mk_X9_thrown, List.forall_mem_cons.mpr ⟨mk_J7_fill_53178, fun _ h => absurd h List.not_mem_nil⟩⟩⟩⟩⟩⟩⟩⟩⟩⟩⟩⟩⟩⟩⟩⟩⟩⟩
def mt_tab : List mM := mt_t0 ++ (mt_t1 ++ (mt_t2 ++ (mt_t3 ++ (mt_t4 ++ (mt_t5 ++ (mt_t6 ++ (mt_t7)))))))
theorem mt_names : (fun a : Nat => mt_tab[a]?.map (fun M : mM => M.1)) = (fun a : Nat => mt_nm[a]?) := by
  funext a
  rw [← List.getElem?_map]
  rfl
theorem mt_ok : ∀ M ∈ mt_tab, mx_mok (fun a => mt_tab[a]?.map (fun M => M.1)) M = true := by
  rw [mt_names]
  show ∀ M ∈ mt_t0 ++ (mt_t1 ++ (mt_t2 ++ (mt_t3 ++ (mt_t4 ++ (mt_t5 ++ (mt_t6 ++ (mt_t7))))))), _
  exact List.forall_mem_append.mpr ⟨mk_t0, List.forall_mem_append.mpr ⟨mk_t1, List.forall_mem_append.mpr ⟨mk_t2, List.forall_mem_append.mpr ⟨mk_t3, List.forall_mem_append.mpr ⟨mk_t4, List.forall_mem_append.mpr ⟨mk_t5, List.forall_mem_append.mpr ⟨mk_t6, mk_t7⟩⟩⟩⟩⟩⟩⟩
end
section
theorem mx_R.ref {D : va_G} {cy : Nat → ClassId} {r : Nat → Value} {B : Nat} {w : mW} {H : Heap} (h : mx_R D cy r B w H) (hr : mx_r r B) {j : Nat} {c : mE} (hj : w.1[j]? = some c) : r j = .ref (B + j) :=
  hr.1 j (Nat.lt_of_lt_of_le (List.getElem?_eq_some_iff.mp hj).1 h.2.1)
/-- what the script's words are -/
def mx_sc (sc : Option Nat) (r : Nat → Value) (B : Nat) (s : State) (H0 : Heap) : Prop := ∀ L, sc = some L → ∃ (b : Nat) (xs : Nat → Int32), r mx_E = .ref b ∧ va_X b L xs s H0 ∧ b < H0.size ∧ ¬ B ≤ b ∧ ∀ i, i < L → r (mx_E + 1 + i) = .int (xs i)
section MX3
variable {p : Program} {l : Launch} {e : Env} {R : Room} {s : State} {m : MethodId} {args : Array Value} {below : List Frame} {meth : Method} {c : Code} {H : Heap} {locs : List Loc} {cells slots : Nat} {Q : State → Prop}
variable {cc : ByteArray} {pc nL : Nat} {ls : Array Slot} {r : Nat → Value} {B : Nat} {D : va_G} {cy : Nat → ClassId} {H0 : Heap}
set_option maxHeartbeats 4000000 in
theorem mx_mem_W (hx : p.tables.exec = Jvm.exec) (hb : c.code = cc) {kb : mK} (hkb : mx_kb kb r) {own : String} {nms : Nat → Option MethodName} {sc ini : Option Nat} {lk : List (Nat × mL)} {n0 z0 k0 k1 : Nat} (hE : mx_Env s) (hown : s.vm.findClass own = some m.cls) (hK : va_K D mx_cl (mx_tys cy) s) (hr : mx_r r B)
    (hlk : ∀ x ∈ lk, mx_lkok nms own x = true) (hini : ∀ ci, ini = some ci → meth.name = "<init>" ∧ ∃ q, mx_cl[ci]? = some q ∧ own = q.1) (hsc : mx_sc sc r B s H0) (hfr : 1 ≤ R.frames) (hlo : 20 ≤ R.locals) (hls : ls.size = c.maxLocals)
    {i : Instr} {st st' : List Value} {w w' : mW} (hR : mx_R D cy r B w H) (hS : va_S (fun q => B ≤ q) H0 H locs) (hn0 : n0 ≤ w.1.length) (hz0 : z0 ≤ w.2) (hrc : w'.1.length + k0 - n0 ≤ R.cells) (hrs : w'.2 + k1 - z0 ≤ R.slots)
    (hd : decode cc pc = .ok (i, mx_len i)) (h : mx_mem kb sc ini lk i st w = some (st', w'))
    (k : ∀ (H' : Heap) (locs' : List Loc), mx_R D cy r B w' H' → va_S (fun q => B ≤ q) H0 H' locs' → W p l e R s m args below meth c H' locs' (w'.1.length + k0 - n0) (w'.2 + k1 - z0) Q (F0 m (pc + mx_len i) ls (st'.map (mx_v r)))) :
    W p l e R s m args below meth c H locs (w.1.length + k0 - n0) (w.2 + k1 - z0) Q (F0 m pc ls (st.map (mx_v r))) := by
  unfold mx_mem at h
  split at h
  case h_1 =>
    split at h
    · rename_i t ci kf zf hlf
      split at h
      · rename_i ci' fs hj
        split at h
        · rename_i hc
          simp only [Bool.and_eq_true] at hc
          split at h
          · rename_i v hv
            cases h
            have hci : ci = ci' := Nat.eq_of_beq_eq_true hc.2
            subst hci
            have h9 := hlk _ (mx_lkl hlf)
            have ht : t = 0 ∨ t = 1 := by have := Nat.le_of_ble_eq_true hc.1; omega
            have hv' : (fs.map (mx_v r))[kf]? = some (mx_v r v) := by simp [hv]
            have kk := k H locs hR hS
            simp only [List.map_cons, mx_v_ref, hR.ref hr hj] at kk ⊢
            rcases ht with rfl | rfl <;> simp only [mx_lkok] at h9 <;> split at h9 <;> first | (cases h9; done) | skip
            all_goals
              rename_i q hcl
              simp only [Bool.and_eq_true] at h9
              obtain ⟨hws, hty, hnm, hdc, -⟩ := mx_C_of hcl
              have hts : ∀ w ∈ u_ws q.1 q.2.1 q.2.2, w.before args s = true := fun w hw => hE w (hws w hw).1 (hws w hw).2 args
              have hkk := mx_blt h9.1
              have hsame : ∀ x, s.fieldFound? (q.2.1 kf).1 (q.2.1 kf).2.1 (q.2.1 kf).2.2.1 = some x → s.fieldFound? q.1 (q.2.1 kf).2.1 (q.2.1 kf).2.2.1 = some x := fun x hx => by rw [← hdc kf hkk]; exact hx
            · exact va_get hx hb hts (fun w h => h) hown hK (hR.P hj rfl) 0 rfl hcl kf hkk (mx_at_use h9.2 hE) hsame hv' hd kk
            · exact va_getN hx hb hts (fun w h => h) hown hK (hR.P hj rfl) 0 rfl hcl kf hkk (mx_at_use h9.2 hE) hsame hv' hd kk
          · cases h
        · cases h
      · cases h
    · cases h
  case h_2 ix v j st2 =>
    split at h
    · rename_i t ci kf zf hlf
      split at h
      · rename_i ci' fs hj
        split at h
        · rename_i hc
          simp only [Bool.and_eq_true, Bool.or_eq_true, decide_eq_true_eq] at hc
          cases h
          obtain ⟨⟨⟨⟨hc1, hc2⟩, hc3⟩, hc4⟩, hc5⟩ := hc
          have hci : ci = ci' := Nat.eq_of_beq_eq_true hc2
          subst hci
          have h9 := hlk _ (mx_lkl hlf)
          have ht : t = 0 ∨ t = 1 := by have := Nat.le_of_ble_eq_true hc1; omega
          simp only [List.map_cons, mx_v_ref, hR.ref hr hj, List.length_set] at k ⊢
          have key : ∀ q : vw_C, mx_cl[ci]? = some q → Nat.blt kf q.2.2 = true → (t = 0 ∧ (Cond.fieldLink own ix q.1 (q.2.1 kf).2.1 (q.2.1 kf).2.2.1).before args s = true) ∨ (t = 1 ∧ (Cond.fieldLinkNest own ix q.1 (q.2.1 kf).2.1 (q.2.1 kf).2.2.1 "BoundTables").before args s = true) → W p l e R s m args below meth c H locs (w.1.length + k0 - n0) (w.2 + k1 - z0) Q (F0 m pc ls (mx_v r v :: .ref (B + j) :: st'.map (mx_v r))) := by
            intro q hcl hkk hlink
            refine mx_put hx hb hE hown hK hr hR hS hcl (mx_blt hkk) hj (mx_blt hc3) hc4 hlink ?_ hd k
            rcases hc5 with hc5 | ⟨hc5, hc6⟩
            · left
              simp only [mx_nf, hcl] at hc5
              simpa using hc5
            · obtain ⟨g1, q', g2, g3⟩ := hini _ hc6
              cases hcl.symm.trans g2
              by_cases hf : (q.2.1 kf).2.2.2 = true
              · exact Or.inr ⟨Nat.eq_of_beq_eq_true hc5, hf, g1, g3⟩
              · exact Or.inl (by simpa using hf)
          rcases ht with rfl | rfl <;> simp only [mx_lkok] at h9 <;> split at h9 <;> first | (cases h9; done) | skip
          · rename_i q hcl
            simp only [Bool.and_eq_true] at h9
            exact key q hcl h9.1 (Or.inl ⟨rfl, mx_at_use h9.2 hE⟩)
          · rename_i q hcl
            simp only [Bool.and_eq_true] at h9
            exact key q hcl h9.1 (Or.inr ⟨rfl, mx_at_use h9.2 hE⟩)
        · cases h
      · cases h
    · cases h
  case h_3 =>
    split at h
    · rename_i hj
      have hj := Nat.eq_of_beq_eq_true hj
      subst hj
      split at h
      · rename_i L
        split at h
        · rename_i hin
          cases h
          obtain ⟨b, xs, g1, g2, g3, g4, g5⟩ := hsc L rfl
          have hin := mx_in_spec hin
          have kk := k H locs hR hS
          simp only [List.map_cons, mx_v_ref, mx_v_int, g1] at kk ⊢
          rw [mx_sv_spec hkb (g5 _ (Nat.not_le.mp fun q => hin (Or.inr q)))] at kk
          exact va_sld hx hb g2 g3 g4 hS hin hd kk
        · cases h
      · cases h
    · split at h
      · rename_i kq n a hj
        split at h
        · rename_i hc
          simp only [Bool.and_eq_true] at hc
          cases h
          have hk0 : kq = 0 := Nat.eq_of_beq_eq_true hc.1
          subst hk0
          have kk := k H locs hR hS
          simp only [List.map_cons, mx_v_ref, mx_v_int, hR.ref hr hj] at kk ⊢
          exact va_iald hx hb hK (hR.P hj rfl) 0 0 rfl rfl (mx_in_spec hc.2) hd kk
        · cases h
      · cases h
  case h_4 =>
    split at h
    · rename_i kq n a hj
      split at h
      · rename_i hc
        simp only [Bool.and_eq_true] at hc
        cases h
        have hk0 : kq = 1 := Nat.eq_of_beq_eq_true hc.1
        subst hk0
        have kk := k H locs hR hS
        simp only [List.map_cons, mx_v_ref, mx_v_int, mx_v_long, hR.ref hr hj] at kk ⊢
        exact va_lald hx hb hK (hR.P hj rfl) 0 1 rfl rfl (mx_in_spec hc.2) hd kk
      · cases h
    · cases h
  case h_5 =>
    split at h
    · rename_i kq n a hj
      split at h
      · rename_i hc
        simp only [Bool.and_eq_true, Bool.or_eq_true] at hc
        cases h
        have kk := k H locs hR hS
        simp only [List.map_cons, mx_v_ref, mx_v_int, hR.ref hr hj] at kk ⊢
        rcases hc.1 with hk0 | hk0
        · have hk0 : kq = 2 := Nat.eq_of_beq_eq_true hk0
          subst hk0
          exact va_zald hx hb hK (hR.P hj rfl) 0 2 rfl rfl (mx_in_spec hc.2) hd kk
        · have hk0 : kq = 3 := Nat.eq_of_beq_eq_true hk0
          subst hk0
          exact va_bald hx hb hK (hR.P hj rfl) 0 3 rfl rfl (mx_in_spec hc.2) hd kk
      · cases h
    · cases h
  case h_6 =>
    split at h
    · rename_i kq n a hj
      split at h
      · rename_i hc
        simp only [Bool.and_eq_true] at hc
        cases h
        have hk0 : kq = 0 := Nat.eq_of_beq_eq_true hc.1
        subst hk0
        simp only [List.map_cons, mx_v_ref, mx_v_int, hR.ref hr hj, List.length_set] at k ⊢
        refine W.iast hx hb (hR.2.2 _ _ hj rfl) ((hK.2 0 _ rfl).1 n (fun j => .int (mx_g a j))) (fun q => by cases q) (by show ¬ (_ ∨ (arrV _ _ _).slots.size ≤ _); rw [arrV_size]; exact mx_in_spec hc.2) rfl rfl hd fun H1 e1 z1 o1 => ?_
        exact k H1 _ (hR.set hj z1 o1 (mx_rowI e1)) (hS.put z1 o1 (Nat.le_add_right B _))
      · cases h
    · cases h
  case h_7 =>
    split at h
    · rename_i kq n a hj
      split at h
      · rename_i hc
        simp only [Bool.and_eq_true] at hc
        cases h
        have hk0 : kq = 1 := Nat.eq_of_beq_eq_true hc.1
        subst hk0
        simp only [List.map_cons, mx_v_ref, mx_v_int, mx_v_long, hR.ref hr hj, List.length_set] at k ⊢
        refine W.last hx hb (hR.2.2 _ _ hj rfl) ((hK.2 1 _ rfl).1 n (fun j => .long (mx_g a j))) (fun q => by cases q) (by show ¬ (_ ∨ (arrV _ _ _).slots.size ≤ _); rw [arrV_size]; exact mx_in_spec hc.2) rfl rfl hd fun H1 e1 z1 o1 => ?_
        exact k H1 _ (hR.set hj z1 o1 (mx_rowJ e1)) (hS.put z1 o1 (Nat.le_add_right B _))
      · cases h
    · cases h
  case h_8 =>
    split at h
    · rename_i kq n a hj
      split at h
      · rename_i hc
        simp only [Bool.and_eq_true] at hc
        cases h
        have hk0 : kq = 2 := Nat.eq_of_beq_eq_true hc.1
        subst hk0
        simp only [List.map_cons, mx_v_ref, mx_v_int, hR.ref hr hj, List.length_set] at k ⊢
        refine W.zast hx hb (hR.2.2 _ _ hj rfl) ((hK.2 2 _ rfl).1 n (fun j => .int (mx_g a j))) (fun q => by cases q) (by show ¬ (_ ∨ (arrV _ _ _).slots.size ≤ _); rw [arrV_size]; exact mx_in_spec hc.2) rfl rfl hd fun H1 e1 z1 o1 => ?_
        exact k H1 _ (hR.set hj z1 o1 (mx_rowI e1)) (hS.put z1 o1 (Nat.le_add_right B _))
      · split at h
        · rename_i hc
          simp only [Bool.and_eq_true] at hc
          cases h
          have hk0 : kq = 3 := Nat.eq_of_beq_eq_true hc.1
          subst hk0
          simp only [List.map_cons, mx_v_ref, mx_v_int, hR.ref hr hj, List.length_set] at k ⊢
          refine W.bast hx hb (hR.2.2 _ _ hj rfl) ((hK.2 3 _ rfl).1 n (fun j => .int (mx_g a j))) (fun q => by cases q) (by show ¬ (_ ∨ (arrV _ _ _).slots.size ≤ _); rw [arrV_size]; exact mx_in_spec hc.2) rfl rfl hd fun H1 e1 z1 o1 => ?_
          exact k H1 _ (hR.set hj z1 o1 (mx_rowI e1)) (hS.put z1 o1 (Nat.le_add_right B _))
        · cases h
    · cases h
  case h_9 =>
    split at h
    · rename_i hj
      have hj := Nat.eq_of_beq_eq_true hj
      subst hj
      split at h
      · rename_i L
        cases h
        obtain ⟨b, xs, g1, g2, g3, g4, g5⟩ := hsc L rfl
        have kk := k H locs hR hS
        simp only [List.map_cons, mx_v_ref, mx_v_int, g1] at kk ⊢
        exact va_slen hx hb g2 g3 g4 hS hd kk
      · cases h
    · split at h
      · rename_i kq n a hj
        split at h
        · rename_i hc
          cases h
          have hk4 := mx_blt hc
          have kk := k H locs hR hS
          simp only [List.map_cons, mx_v_ref, mx_v_int, hR.ref hr hj] at kk ⊢
          obtain ⟨ty, hty⟩ : ∃ ty, (mx_tys cy)[kq]? = some (cy kq, ty) := by
            rcases (show kq = 0 ∨ kq = 1 ∨ kq = 2 ∨ kq = 3 by omega) with rfl | rfl | rfl | rfl <;> exact ⟨_, rfl⟩
          have hdd : mx_dd (.inr ((kq, n), a)) = false := by rcases (show kq = 0 ∨ kq = 1 ∨ kq = 2 ∨ kq = 3 by omega) with rfl | rfl | rfl | rfl <;> rfl
          cases a with
          | inl a => exact va_alen hx hb hK (hR.P hj hdd) 0 kq rfl hty rfl hd kk
          | inr a => exact va_alen hx hb hK (hR.P hj hdd) 0 kq rfl hty rfl hd kk
        · cases h
      · cases h
  case h_10 t n st2 =>
    split at h
    · rename_i kq hkq
      split at h
      · rename_i hc
        simp only [Bool.and_eq_true, decide_eq_true_eq] at hc
        cases h
        obtain ⟨⟨⟨hc1, hc2⟩, hc3⟩, hc4⟩ := hc
        have hfz := mx_al_spec hkb hr hc4
        have hc2 := Nat.le_of_ble_eq_true hc2
        have hc3 := mx_blt hc3
        simp only [List.map_cons, mx_v_ref, mx_v_int, hr.1 _ hc3, List.length_append, List.length_singleton] at k hrc hrs ⊢
        have harr : (Cond.arrayClass (newarray.typeOf t)).before args s = true ∧ n.toNatClampNeg * componentBytes (newarray.typeOf t) ≤ 536870912 ∧ (∀ cA, s.vm.findClass ("[" ++ (newarray.typeOf t).toString) = some cA → cA = cy kq) ∧ ∀ cA, cA = cy kq → ∀ H' : Heap, H'[B + w.1.length]? = some (arrV cA n.toNatClampNeg (fun _ => defaultValue (newarray.typeOf t))) → va_at D mx_cl (B + w.1.length, mx_c cy r (mx_new kq n.toNatClampNeg)) H' := by
          cases t <;> cases hkq <;> refine ⟨?_, ?_, fun cA h => ?_, fun cA h H' hh => ?_⟩
          · exact mx_at_use mx_ar_boolean hE
          · show _ * 1 ≤ _; omega
          · exact Option.some.inj (h.symm.trans (hK.2 2 _ rfl).2)
          · subst h; exact hh
          · exact mx_at_use mx_ar_byte hE
          · show _ * 1 ≤ _; omega
          · exact Option.some.inj (h.symm.trans (hK.2 3 _ rfl).2)
          · subst h; exact hh
          · exact mx_at_use mx_ar_int hE
          · show _ * 4 ≤ _; omega
          · exact Option.some.inj (h.symm.trans (hK.2 0 _ rfl).2)
          · subst h; exact hh
          · exact mx_at_use mx_ar_long hE
          · show _ * 8 ≤ _; omega
          · exact Option.some.inj (h.symm.trans (hK.2 1 _ rfl).2)
          · subst h; exact hh
        obtain ⟨a1, a2, a3, a4⟩ := harr
        refine va_newaK hx hb a1 rfl hd rfl hc1 rfl a2 (by omega) (by omega) (hR.1 hfz) fun H1 cA e1 z1 o1 hAr hNm => ?_
        rw [show w.1.length + k0 - n0 + 1 = w.1.length + 1 + k0 - n0 by omega, show w.2 + k1 - z0 + n.toNatClampNeg = w.2 + n.toNatClampNeg + k1 - z0 by omega]
        refine k H1 locs (hR.push hc3 (by rw [z1, hR.1 hfz]) (fun q hq => o1 q (by rw [← hR.1 hfz]; exact hq)) (a4 cA (a3 cA hNm) H1 e1)) ⟨Nat.le_trans hS.1 (by rw [z1, ← hR.1 hfz]; omega), fun q h1 h2 => (o1 q (by rw [← hR.1 hfz]; exact Nat.lt_of_lt_of_le h1 hS.1)).trans (hS.2.1 q h1 h2), hS.2.2⟩
      · cases h
    · cases h
  case h_11 =>
    split at h
    · rename_i t ci kf zf hlf
      split at h
      · rename_i q hcl
        split at h
        · rename_i hc
          simp only [Bool.and_eq_true] at hc
          cases h
          have hfz := mx_al_spec hkb hr hc.2
          have hc := hc.1
          have ht : t = 9 := Nat.eq_of_beq_eq_true hc.1
          subst ht
          have hc3 := mx_blt hc.2
          have h9 := hlk _ (mx_lkl hlf)
          simp only [mx_lkok, hcl] at h9
          obtain ⟨hws, hty, hnm, hdc, i1, i2, hi1, hi2⟩ := mx_C_of hcl
          have hts : ∀ w ∈ u_ws q.1 q.2.1 q.2.2, w.before args s = true := fun w hw => hE w (hws w hw).1 (hws w hw).2 args
          have hKn := hK.1 ci _ hcl
          simp only [List.map_cons, mx_v_ref, hr.1 _ hc3, List.length_append, List.length_singleton] at k hrc hrs ⊢
          refine W.newcK hx hb hown (mx_at_use h9 hE) (mx_at_use hi1 hE) (mx_at_use hi2 hE) rfl hd (by omega) (by omega) hKn.2.1 (hR.1 hfz) fun H1 kC hkC e1 z1 o1 => ?_
          rw [show w.1.length + k0 - n0 + 1 = w.1.length + 1 + k0 - n0 by omega, show w.2 + k1 - z0 + q.2.2 = w.2 + q.2.2 + k1 - z0 by omega]
          refine k H1 locs (hR.push hc3 (by rw [z1, hR.1 hfz]) (fun x hx => o1 x (by rw [← hR.1 hfz]; exact hx)) ?_) ⟨Nat.le_trans hS.1 (by rw [z1, ← hR.1 hfz]; omega), fun x h1 h2 => (o1 x (by rw [← hR.1 hfz]; exact Nat.lt_of_lt_of_le h1 hS.1)).trans (hS.2.1 x h1 h2), hS.2.2⟩
          refine ⟨_, hcl, (u_born (mx_ty ci) hts (fun w h => h) hKn hkC e1 hty).to (fun j hj => ?_)⟩
          have hdv : ∀ ty : FieldType, mx_v r (defaultValue ty) = defaultValue ty := fun ty => by cases ty <;> first | rfl | (simp [mx_v, defaultValue])
          simp [vp_V, mx_defs, List.getD, hj, hdv]
        · cases h
      · cases h
    · cases h
  case h_12 =>
    split at h
    · rename_i t ci kf zf hlf
      split at h
      · rename_i hc
        cases h
        have ht : t = 10 := Nat.eq_of_beq_eq_true hc
        subst ht
        have h9 := hlk _ (mx_lkl hlf)
        simp only [mx_lkok] at h9
        exact lv_ldc hx hb hown (mx_at_use h9 hE) hd (k H locs hR hS)
      · cases h
    · cases h
  case h_13 =>
    split at h
    · rename_i t ci kf zf hlf
      split at h
      · rename_i hc
        cases h
        have ht : t = 11 := Nat.eq_of_beq_eq_true hc
        subst ht
        have h9 := hlk _ (mx_lkl hlf)
        simp only [mx_lkok] at h9
        exact lv_ldc2 hx hb hown (mx_at_use h9 hE) hd (k H locs hR hS)
      · cases h
    · cases h
  case h_14 =>
    split at h
    · rename_i t ci kf zf hlf
      split at h
      · rename_i hc
        simp only [Bool.and_eq_true] at hc
        cases h
        have ht : t = 8 := Nat.eq_of_beq_eq_true hc.1.1
        subst ht
        have h9 := hlk _ (mx_lkl hlf)
        simp only [mx_lkok] at h9
        obtain ⟨a, ha⟩ := hr.ref (Nat.le_of_ble_eq_true hc.1.2)
        have hsum := Nat.le_of_ble_eq_true hc.2
        rw [← mx_cats hr] at hsum
        simp only [List.map_cons, mx_v_ref, ha]
        refine W.objInit hx hb hown (mx_at_use h9 hE) (mx_at_use mx_oi.1 hE) (mx_at_use mx_oi.2 hE) rfl hls rfl hd hfr ?_ (k H locs hR hS)
        show 2 * 0 + _ + 12 ≤ R.locals
        omega
      · cases h
    · cases h
  case h_15 => cases h
end MX3
end
section
/-! ### calls; a method's run is its contract -/
def mx_isO (w : mW) (j md ci : Nat) : Bool := match w.1[j]? with
  | some (.inl (c, _)) => Nat.beq md 2 || Nat.beq c ci
  | _ => false
def mx_ivk (tab : List mM) (call : Nat → List Value → mW → Option (Option Value × mW)) (lk : List (Nat × mL)) (i : Instr) (st : List Value) (w : mW) : Option (List Value × mW) :=
  match (match i with | .invokevirtual ix => some (ix, 0) | .invokestatic ix => some (ix, 1) | .invokespecial ix => some (ix, 2) | _ => none) with
  | none => none
  | some (ix, md) => match lk.lookup ix with
    | none => none
    | some (t, a, n, _) => match tab[a]? with
      | none => none
      | some M => if (Nat.beq t (2 * md + 2) || Nat.beq t (2 * md + 3)) && Nat.beq M.2.2.1.2.2.2.2 md && Nat.beq M.2.2.1.2.2.1 n && Nat.ble n st.length then
          if Nat.beq md 1 then
            (if Nat.ble (((st.drop n).map fun v => v.category).sum) 8 then match call a (st.take n).reverse w with
              | some (v, w') => if Nat.ble w.1.length w'.1.length && Nat.ble w.2 w'.2 then some (v.toList ++ st.drop n, w') else none
              | none => none else none)
          else match st.drop n with
            | .ref j :: rest => if Nat.ble ((rest.map fun v => v.category).sum) 8 && mx_isO w j md M.2.2.1.2.2.2.1 then match call a (.ref j :: (st.take n).reverse) w with
                | some (v, w') => if Nat.ble w.1.length w'.1.length && Nat.ble w.2 w'.2 then some (v.toList ++ rest, w') else none
                | none => none else none
            | _ => none
        else none
def mx_room (d : Nat) (w w' : mW) : Room := { frames := d, cells := w'.1.length - w.1.length, slots := w'.2 - w.2, locals := 40 * d }
def mx_Pc (D : va_G) (cy : Nat → ClassId) (r : Nat → Value) (B : Nat) (a : List Value) (w : mW) : Array Value → State → Prop := fun av U => av = (a.map (mx_v r)).toArray ∧ mx_Env U ∧ va_K D mx_cl (mx_tys cy) U ∧ mx_R D cy r B w U.heap
def mx_Qc (D : va_G) (cy : Nat → ClassId) (r : Nat → Value) (B : Nat) (v : Option Value) (w' : mW) : Array Value → State → Outcome → State → Prop := fun _ st o t => o = .returned (v.map (mx_v r)) ∧ mx_R D cy r B w' t.heap ∧ va_F (fun q => B ≤ q) st t
def mx_Met (l : Launch) (D : va_G) (cy : Nat → ClassId) (r : Nat → Value) (B : Nat) (M : mM) (d : Nat) (a : List Value) (w : mW) (v : Option Value) (w' : mW) : Prop :=
  Met l M.1 [Cond.code M.1 M.2.1 M.2.2.1.1 M.2.2.1.2.1] (mx_room d w w') (mx_Pc D cy r B a w) (mx_Qc D cy r B v w') (w'.1.length - w.1.length) (w'.2 - w.2) (fun q => B ≤ q)
theorem mx_blind {D : va_G} {cy : Nat → ClassId} {r : Nat → Value} {B : Nat} {a : List Value} {w : mW} : FrameBlind (mx_Pc D cy r B a w) := by
  intro av U g mk h
  exact ⟨h.1, mx_Env.same (s := U) (U := U.calling g mk av) rfl h.2.1, va_K.moved (u := U) (U := U.calling g mk av) (Vm.Alike.refl U.vm) h.2.2.1, h.2.2.2⟩
section MX4
variable {p : Program} {l : Launch} {e : Env} {R : Room} {s : State} {m : MethodId} {args : Array Value} {below : List Frame} {meth : Method} {c : Code} {H : Heap} {locs : List Loc} {cells slots : Nat} {Q : State → Prop}
variable {cc : ByteArray} {pc nL : Nat} {ls : Array Slot} {r : Nat → Value} {B : Nat} {D : va_G} {cy : Nat → ClassId} {H0 : Heap}
theorem mx_run {mc ms : Nat} {a : Array Value} {st0 rest : List Value} {v : Option Value} {w' : mW} (hr : va_Run p l e R s m args below meth c H locs cells slots mc ms (F0 m pc ls st0) rest (mx_Qc D cy r B v w' a) (fun q => B ≤ q)) (hS : va_S (fun q => B ≤ q) H0 H locs)
    (k : ∀ (H' : Heap) (locs' : List Loc), mx_R D cy r B w' H' → va_S (fun q => B ≤ q) H0 H' locs' → W p l e R s m args below meth c H' locs' (cells + mc) (slots + ms) Q (F0 m (pc + 3) ls ((v.map (mx_v r)).toList ++ rest))) : W p l e R s m args below meth c H locs cells slots Q (F0 m pc ls st0) := by
  intro T hT X
  obtain ⟨v', st₀, t, T', L, h0, X', hL, e1, e2, ⟨hv, hR', hz, hk⟩, st⟩ := hr T hT X
  cases hv
  rw [h0] at hz hk
  obtain ⟨t2, a1, b1⟩ := k T'.heap (locs ++ L) (by rw [e1]; exact hR')
    ⟨Nat.le_trans hS.1 (by rw [e1]; exact hz), fun q h1 h2 => by rw [e1, hk q (Nat.lt_of_lt_of_le h1 hS.1) h2]; exact hS.2.1 q h1 h2, fun q hq => by
      rcases List.mem_append.mp hq with h | h
      · exact hS.2.2 q h
      · exact hL q h⟩ T' rfl X'
  exact ⟨t2, st t2 a1, b1⟩
theorem mx_Mok {nms : Nat → Option MethodName} {M : mM} (h : mx_mok nms M = true) : (∀ x ∈ M.2.2.2.2.1, mx_rowok M.2.1 x = true) ∧ (∀ x ∈ M.2.2.2.2.2.1, mx_lkok nms M.1.cls x = true) ∧ mx_at M.2.2.2.1.1 (.code M.1 M.2.1 M.2.2.1.1 M.2.2.1.2.1) = true ∧ mx_at M.2.2.2.1.2.2.2 (.initialized M.1.cls) = true ∧
    (M.2.2.1.2.2.2.2 = 1 → mx_at M.2.2.2.1.2.1 (.static M.1) = true) ∧ (M.2.2.1.2.2.2.2 = 2 → mx_at M.2.2.2.1.2.1 (.instanceMethod M.1) = true ∧ M.1.name = "<init>" ∧ M.2.2.1.2.1 = none) ∧
    (M.2.2.1.2.2.2.2 = 0 → mx_at M.2.2.2.1.2.1 (.instanceMethod M.1) = true ∧ mx_at M.2.2.2.1.2.2.1 (.selects M.1.cls M.1 M.1) = true ∧ ∃ q, mx_cl[M.2.2.1.2.2.2.1]? = some q ∧ q.1 = M.1.cls) ∧
    (M.1.cls ≠ "java/lang/invoke/MethodHandle" ∧ M.1.cls ≠ "java/lang/invoke/VarHandle" ∧ (parseMethodDescriptor M.1.desc).map (fun d => d.parameters.length) = some M.2.2.1.2.2.1) ∧ plainName M.1.cls = true ∧ M.2.2.1.1 ≤ 21 ∧
    (∀ ci, M.2.2.2.2.2.2 = some ci → M.1.name = "<init>" ∧ ∃ q, mx_cl[ci]? = some q ∧ M.1.cls = q.1) := by
  simp only [mx_mok, Bool.and_eq_true, List.all_eq_true, decide_eq_true_eq] at h
  obtain ⟨⟨⟨⟨⟨⟨⟨⟨h1, h2⟩, h3⟩, h4⟩, h5⟩, h6⟩, h7⟩, h8⟩, h9⟩ := h
  refine ⟨h1, h2, h3, h4, fun h => ?_, fun h => ?_, fun h => ?_, h6, h7, Nat.le_of_ble_eq_true h8, fun ci h => ?_⟩
  · rw [h] at h5; exact h5
  · rw [h] at h5
    simp only [Bool.and_eq_true, decide_eq_true_eq] at h5
    exact ⟨h5.1.1, h5.1.2, h5.2⟩
  · rw [h] at h5
    simp only [Bool.and_eq_true] at h5
    refine ⟨h5.1.1, h5.1.2, ?_⟩
    have h10 := h5.2
    split at h10
    · rename_i q hq
      exact ⟨q, hq, by simpa using h10⟩
    · cases h10
  · rw [h] at h9
    simp only [Bool.and_eq_true, decide_eq_true_eq] at h9
    refine ⟨h9.1, ?_⟩
    have h10 := h9.2
    split at h10
    · rename_i q hq
      exact ⟨q, hq, by simpa using h10⟩
    · cases h10
set_option maxHeartbeats 4000000 in
theorem mx_ivk_W (hx : p.tables.exec = Jvm.exec) (hb : c.code = cc) (hml : c.maxLocals = nL) (hls : ls.size = nL) {own : String} {tab : List mM} {lk : List (Nat × mL)} {n0 z0 k0 k1 d : Nat} (hE : mx_Env s) (hown : s.vm.findClass own = some m.cls) (hK : va_K D mx_cl (mx_tys cy) s) (hr : mx_r r B)
    (hlk : ∀ x ∈ lk, mx_lkok (fun a => tab[a]?.map (fun M => M.1)) own x = true) (htab : ∀ M ∈ tab, mx_mok (fun a => tab[a]?.map (fun M => M.1)) M = true) (hfr : d + 1 ≤ R.frames) (hlo : 40 * (d + 1) ≤ R.locals) {call : Nat → List Value → mW → Option (Option Value × mW)}
    (hcall : ∀ a As w v w', call a As w = some (v, w') → ∀ M, tab[a]? = some M → mx_Met l D cy r B M d As w v w')
    {i : Instr} {st st' : List Value} {w w' : mW} (hR : mx_R D cy r B w H) (hS : va_S (fun q => B ≤ q) H0 H locs) (hn0 : n0 ≤ w.1.length) (hz0 : z0 ≤ w.2) (hrc : w'.1.length + k0 - n0 ≤ R.cells) (hrs : w'.2 + k1 - z0 ≤ R.slots)
    (hd : decode cc pc = .ok (i, mx_len i)) (h : mx_ivk tab call lk i st w = some (st', w'))
    (k : ∀ (H' : Heap) (locs' : List Loc), mx_R D cy r B w' H' → va_S (fun q => B ≤ q) H0 H' locs' → W p l e R s m args below meth c H' locs' (w'.1.length + k0 - n0) (w'.2 + k1 - z0) Q (F0 m (pc + 3) ls (st'.map (mx_v r)))) :
    W p l e R s m args below meth c H locs (w.1.length + k0 - n0) (w.2 + k1 - z0) Q (F0 m pc ls (st.map (mx_v r))) := by
  unfold mx_ivk at h
  split at h
  · cases h
  · rename_i ix md hmd
    split at h
    · cases h
    · rename_i t a n zz hlf
      split at h
      · cases h
      · rename_i M hM
        split at h
        · rename_i hc
          simp only [Bool.and_eq_true, Bool.or_eq_true] at hc
          obtain ⟨⟨⟨hc1, hc2⟩, hc3⟩, hc4⟩ := hc
          have hmd2 : M.2.2.1.2.2.2.2 = md := Nat.eq_of_beq_eq_true hc2
          have hnn : M.2.2.1.2.2.1 = n := Nat.eq_of_beq_eq_true hc3
          have hnl := Nat.le_of_ble_eq_true hc4
          obtain ⟨m1, m2, m3, m4, m5, m6, m7, m8, m9, m10, m11⟩ := mx_Mok (htab M (List.mem_of_getElem? hM))
          have h9 := hlk _ (mx_lkl hlf)
          have hlen : ∀ sig, parseMethodDescriptor M.1.desc = some sig → n = sig.parameters.length := fun sig hs => by
            have := m8.2.2
            rw [hs] at this
            rw [← hnn]
            exact (Option.some.inj this).symm
          have hws : ∀ w ∈ [Cond.code M.1 M.2.1 M.2.2.1.1 M.2.2.1.2.1], ∀ (a' : Array Value) (U : State), s.WarmedH U.vm → w.before a' U = true := by
            intro w hw a' U hW
            rw [List.mem_singleton.mp hw]
            exact mx_at_use m3 (mx_Env.warm hW hE)
          have hlink : (t = 2 * md + 2 ∧ (Cond.methodLink own ix M.1).before args s = true) ∨ (t = 2 * md + 3 ∧ (Cond.methodLinkNest own ix M.1 "BoundTables").before args s = true) := by
            have hmd3 : md = 0 ∨ md = 1 ∨ md = 2 := by
              cases i <;> first | (cases hmd; done) | (cases hmd; simp)
            rcases hc1 with hc1 | hc1 <;> have ht := Nat.eq_of_beq_eq_true hc1
            · left
              refine ⟨ht, ?_⟩
              rcases hmd3 with rfl | rfl | rfl <;> subst ht <;> simp only [mx_lkok, hM, Option.map_some] at h9 <;> exact mx_at_use h9 hE
            · right
              refine ⟨ht, ?_⟩
              rcases hmd3 with rfl | rfl | rfl <;> subst ht <;> simp only [mx_lkok, hM, Option.map_some] at h9 <;> exact mx_at_use h9 hE
          have CF : CallFix p m c cc nL s args [] own := ⟨hx, hb, hml, hown, fun w hw => by cases hw⟩
          have hstk : st = (st.take n).reverse.reverse ++ st.drop n := by simp
          have hAl : (((st.take n).reverse).map (mx_v r)).length = n := by simp [Nat.min_eq_left hnl]
          have rms : ∀ w2 : mW, (mx_room d w w2).frames + 1 ≤ R.frames ∧ 8 + (M.2.2.1.1 + 11) + (mx_room d w w2).locals ≤ R.locals := fun w2 => ⟨hfr, by show 8 + (M.2.2.1.1 + 11) + 40 * d ≤ _; omega⟩
          split at h
          · rename_i hmd1
            have hmd1 : md = 1 := Nat.eq_of_beq_eq_true hmd1
            subst hmd1
            have hi : i = .invokestatic ix := by cases i <;> first | (cases hmd; done) | (cases hmd; rfl)
            subst hi
            split at h
            · rename_i hsum
              split at h
              · rename_i v w2 hcl
                split at h
                · rename_i hmono
                  simp only [Bool.and_eq_true] at hmono
                  cases h
                  have g1 := Nat.le_of_ble_eq_true hmono.1
                  have g2 := Nat.le_of_ble_eq_true hmono.2
                  have hMet := hcall _ _ _ _ _ hcl M hM
                  have hsum := Nat.le_of_ble_eq_true hsum
                  rw [← mx_cats hr] at hsum
                  have hp : PreS s H (mx_Pc D cy r B (st.take n).reverse w) (((st.take n).reverse).map (mx_v r)) := ⟨mx_blind, fun U hU hW => ⟨rfl, mx_Env.warm hW hE, va_K.moved hW.alike hK, by rw [hU]; exact hR⟩⟩
                  have hstack : (F0 m pc ls (st.map (mx_v r))).stack = (((st.take n).reverse).map (mx_v r)).reverse ++ (st.drop n).map (mx_v r) := by
                    show st.map (mx_v r) = _
                    rw [← List.map_reverse, List.reverse_reverse, ← List.map_append, List.take_append_drop]
                  refine mx_run (D := D) (cy := cy) (r := r) ?_ hS (fun H' locs' hR' hS' => ?_) (mc := w'.1.length - w.1.length) (ms := w'.2 - w.2) (v := v) (w' := w') (rest := (st.drop n).map (mx_v r)) (a := (((st.take n).reverse).map (mx_v r)).toArray)
                  · rcases hlink with ⟨-, hl⟩ | ⟨-, hl⟩
                    · exact va_runS CF hMet ⟨⟨rfl, rfl, (rms w').1, (rms w').2, hws, List.mem_singleton.mpr rfl, mx_at_use m3 hE, mx_at_use m4 hE, ⟨m8.1, m8.2.1⟩, hlen, hl⟩, mx_at_use (m5 hmd2) hE⟩ hp rfl hAl hls hstack (lv_room hsum) hd ⟨by omega, by omega⟩
                    · exact va_runSN CF hMet ⟨⟨⟨rfl, rfl, (rms w').1, (rms w').2, hws, List.mem_singleton.mpr rfl⟩, mx_at_use m3 hE, mx_at_use m4 hE, ⟨m8.1, m8.2.1⟩, hlen, hl⟩, mx_at_use (m5 hmd2) hE, trivial⟩ hp rfl hAl hls hstack (lv_room hsum) hd ⟨by omega, by omega⟩
                  · have kk := k H' locs' hR' hS'
                    rw [show w.1.length + k0 - n0 + (w'.1.length - w.1.length) = w'.1.length + k0 - n0 by omega, show w.2 + k1 - z0 + (w'.2 - w.2) = w'.2 + k1 - z0 by omega]
                    have e1 : (v.map (mx_v r)).toList ++ (st.drop n).map (mx_v r) = (v.toList ++ st.drop n).map (mx_v r) := by cases v <;> simp
                    rw [e1]
                    exact kk
                · cases h
              · cases h
            · cases h
          · rename_i hmd1
            split at h
            · rename_i j rest hdrop
              split at h
              · rename_i hcc
                simp only [Bool.and_eq_true] at hcc
                split at h
                · rename_i v w2 hcl
                  split at h
                  · rename_i hmono
                    simp only [Bool.and_eq_true] at hmono
                    cases h
                    have g1 := Nat.le_of_ble_eq_true hmono.1
                    have g2 := Nat.le_of_ble_eq_true hmono.2
                    have hMet := hcall _ _ _ _ _ hcl M hM
                    have hsum := Nat.le_of_ble_eq_true hcc.1
                    rw [← mx_cats hr] at hsum
                    have hobj := hcc.2
                    unfold mx_isO at hobj
                    split at hobj
                    · rename_i ci fs hj
                      have hrj := hR.ref hr hj
                      have hargs : Value.ref (B + j) :: ((st.take n).reverse).map (mx_v r) = (Value.ref j :: (st.take n).reverse).map (mx_v r) := by simp [mx_v_ref, hrj]
                      have hstack : (F0 m pc ls (st.map (mx_v r))).stack = (((st.take n).reverse).map (mx_v r)).reverse ++ .ref (B + j) :: rest.map (mx_v r) := by
                        show st.map (mx_v r) = _
                        rw [← List.map_reverse, List.reverse_reverse, ← hrj, ← mx_v_ref r j, ← List.map_cons, ← hdrop, ← List.map_append, List.take_append_drop]
                      have hpS : PreS s H (mx_Pc D cy r B (.ref j :: (st.take n).reverse) w) (.ref (B + j) :: ((st.take n).reverse).map (mx_v r)) := ⟨mx_blind, fun U hU hW => ⟨by rw [hargs], mx_Env.warm hW hE, va_K.moved hW.alike hK, by rw [hU]; exact hR⟩⟩
                      have hmd3 : md = 0 ∨ md = 2 := by
                        cases i <;> first | (cases hmd; done) | (cases hmd; simp at hmd1 ⊢)
                      refine mx_run (D := D) (cy := cy) (r := r) ?_ hS (fun H' locs' hR' hS' => ?_) (mc := w'.1.length - w.1.length) (ms := w'.2 - w.2) (v := v) (w' := w') (rest := rest.map (mx_v r)) (a := (Value.ref (B + j) :: ((st.take n).reverse).map (mx_v r)).toArray)
                      · rcases hmd3 with rfl | rfl
                        · have hi : i = .invokevirtual ix := by cases i <;> first | (cases hmd; done) | (cases hmd; rfl)
                          subst hi
                          obtain ⟨n1, n2, q, n3, n4⟩ := m7 hmd2
                          have hci : ci = M.2.2.1.2.2.2.1 := by simpa using hobj
                          have hp : PreV s H M.1.cls (B + j) (mx_Pc D cy r B (.ref j :: (st.take n).reverse) w) (((st.take n).reverse).map (mx_v r)) := ⟨hpS.1, by rw [← n4]; exact va_recv hK (hR.P hj rfl) (by rw [hci]; exact n3) (q0 := 0) rfl, hpS.2⟩
                          rcases hlink with ⟨-, hl⟩ | ⟨-, hl⟩
                          · exact va_runV CF hMet ⟨⟨rfl, rfl, (rms w').1, (rms w').2, hws, List.mem_singleton.mpr rfl, mx_at_use m3 hE, mx_at_use m4 hE, ⟨m8.1, m8.2.1⟩, hlen, hl⟩, mx_at_use n1 hE, mx_at_use n2 hE⟩ hp rfl hAl hls hstack (lv_room hsum) hd ⟨by omega, by omega⟩
                          · exact va_runVN CF hMet ⟨⟨⟨rfl, rfl, (rms w').1, (rms w').2, hws, List.mem_singleton.mpr rfl⟩, mx_at_use m3 hE, mx_at_use m4 hE, ⟨m8.1, m8.2.1⟩, hlen, hl⟩, mx_at_use n1 hE, mx_at_use n2 hE⟩ hp rfl hAl hls hstack (lv_room hsum) hd ⟨by omega, by omega⟩
                        · have hi : i = .invokespecial ix := by cases i <;> first | (cases hmd; done) | (cases hmd; rfl)
                          subst hi
                          obtain ⟨n1, n2, n3⟩ := m6 hmd2
                          have hMet' := hMet
                          unfold mx_Met at hMet'
                          rw [n3] at hMet' hws m3
                          rcases hlink with ⟨-, hl⟩ | ⟨-, hl⟩
                          · exact va_runI CF hMet' ⟨⟨rfl, rfl, (rms w').1, (rms w').2, hws, List.mem_singleton.mpr rfl, mx_at_use m3 hE, mx_at_use m4 hE, ⟨m8.1, m8.2.1⟩, hlen, hl⟩, n2, mx_at_use n1 hE⟩ hpS rfl hAl hls hstack (lv_room hsum) hd ⟨by omega, by omega⟩
                          · exact va_runIN CF hMet' ⟨⟨⟨rfl, rfl, (rms w').1, (rms w').2, hws, List.mem_singleton.mpr rfl⟩, mx_at_use m3 hE, mx_at_use m4 hE, ⟨m8.1, m8.2.1⟩, hlen, hl⟩, n2, mx_at_use n1 hE⟩ hpS rfl hAl hls hstack (lv_room hsum) hd ⟨by omega, by omega⟩
                      · have kk := k H' locs' hR' hS'
                        rw [show w.1.length + k0 - n0 + (w'.1.length - w.1.length) = w'.1.length + k0 - n0 by omega, show w.2 + k1 - z0 + (w'.2 - w.2) = w'.2 + k1 - z0 by omega]
                        have e1 : (v.map (mx_v r)).toList ++ rest.map (mx_v r) = (v.toList ++ rest).map (mx_v r) := by cases v <;> simp
                        rw [e1]
                        exact kk
                    · cases hobj
                  · cases h
                · cases h
              · cases h
            · cases h
        · cases h
end MX4
end
section
/-! ### runs -/
def mx_step (kb : mK) (tab : List mM) (call : Nat → List Value → mW → Option (Option Value × mW)) (sc : Option Nat) (M : mM) (σ : mS) : Option mS := match M.2.2.2.2.1.lookup σ.1 with
  | none => none
  | some i => match mx_pure i σ.2.2.1 with
    | some st' => some (σ.1 + mx_len i, σ.2.1, st', σ.2.2.2)
    | none => match mx_loc M.2.2.1.1 i σ.2.1 σ.2.2.1 with
      | some (lv', st') => some (σ.1 + mx_len i, lv', st', σ.2.2.2)
      | none => match mx_br kb σ.1 i σ.2.2.1 with
        | some (pc', st') => some (pc', σ.2.1, st', σ.2.2.2)
        | none => match mx_mem kb sc M.2.2.2.2.2.2 M.2.2.2.2.2.1 i σ.2.2.1 σ.2.2.2 with
          | some (st', w') => some (σ.1 + mx_len i, σ.2.1, st', w')
          | none => match mx_ivk tab call M.2.2.2.2.2.1 i σ.2.2.1 σ.2.2.2 with
            | some (st', w') => some (σ.1 + 3, σ.2.1, st', w')
            | none => none
def mx_stp (kb : mK) (tab : List mM) (call : Nat → List Value → mW → Option (Option Value × mW)) (sc : Option Nat) (jmp : mS → Option mS) (M : mM) (σ : mS) : Option mS := match jmp σ with
  | some σ' => some σ'
  | none => mx_step kb tab call sc M σ
def mx_runN (kb : mK) (tab : List mM) (call : Nat → List Value → mW → Option (Option Value × mW)) (sc : Option Nat) (jmp : mS → Option mS) (M : mM) : Nat → mS → Option mS
  | 0, σ => some σ
  | n + 1, σ => match mx_stp kb tab call sc jmp M σ with
    | some σ' => mx_runN kb tab call sc jmp M n σ'
    | none => none
def mx_ret (M : mM) (σ : mS) : Option (Option Value × mW) := match M.2.2.2.2.1.lookup σ.1, σ.2.2.1 with
  | some .ireturn, [.int v] => match M.2.2.1.2.1 with
    | some ty => if narrow ty (.int v) = .int v then some (some (.int v), σ.2.2.2) else none
    | none => none
  | some .lreturn, [.long v] => if M.2.2.1.2.1 = some .long then some (some (.long v), σ.2.2.2) else none
  | some .return_, [] => if M.2.2.1.2.1 = none then some (none, σ.2.2.2) else none
  | _, _ => none
def mx_loop (kb : mK) (tab : List mM) (call : Nat → List Value → mW → Option (Option Value × mW)) (jmp : mS → Option mS) (M : mM) : Nat → mS → Option (Option Value × mW)
  | 0, _ => none
  | n + 1, σ => match mx_ret M σ with
    | some x => some x
    | none => match mx_stp kb tab call none jmp M σ with
      | some σ' => mx_loop kb tab call jmp M n σ'
      | none => none
def mx_call (kb : mK) (tab : List mM) (ovr : Nat → List Value → mW → Option (Option Value × mW)) (jmp : Nat → mS → Option mS) : Nat → Nat → List Value → mW → Option (Option Value × mW)
  | 0, _, _, _ => none
  | d + 1, y, a, w => match ovr y a w with
    | some x => some x
    | none => match tab[y]? with
      | none => none
      | some M => if Nat.ble ((a.map fun v => v.category).sum) M.2.2.1.1 then mx_loop kb tab (mx_call kb tab ovr jmp d) (jmp y) M 1000000 (0, lv_args 0 a, [], w) else none
section MX5
variable {p : Program} {l : Launch} {e : Env} {R : Room} {s : State} {m : MethodId} {args : Array Value} {below : List Frame} {meth : Method} {c : Code}
/-- where a method runs -/
def mx_X (kb : mK) (p : Program) (R : Room) (s : State) (m : MethodId) (meth : Method) (c : Code) (D : va_G) (cy : Nat → ClassId) (r : Nat → Value) (B : Nat) (M : mM) (sc : Option Nat) (H0 : Heap) (d : Nat) : Prop :=
  p.tables.exec = Jvm.exec ∧ c.code = M.2.1 ∧ c.maxLocals = M.2.2.1.1 ∧ s.vm.findClass M.1.cls = some m.cls ∧ mx_Env s ∧ va_K D mx_cl (mx_tys cy) s ∧ mx_r r B ∧ mx_sc sc r B s H0 ∧ meth.name = M.1.name ∧ d + 1 ≤ R.frames ∧ 40 * (d + 1) ≤ R.locals ∧ mx_kb kb r
def mx_St (p : Program) (l : Launch) (e : Env) (R : Room) (s : State) (m : MethodId) (args : Array Value) (below : List Frame) (meth : Method) (c : Code) (D : va_G) (cy : Nat → ClassId) (r : Nat → Value) (B : Nat) (H0 : Heap) (nL : Nat) (σ σ' : mS) : Prop :=
  ∀ (Q : State → Prop) (n0 z0 k0 k1 : Nat) (H : Heap) (ls : Array Slot) (locs : List Loc), lv_has ls nL (mx_lv r σ.2.1) → mx_R D cy r B σ.2.2.2 H → va_S (fun q => B ≤ q) H0 H locs → n0 ≤ σ.2.2.2.1.length → z0 ≤ σ.2.2.2.2 → σ'.2.2.2.1.length + k0 - n0 ≤ R.cells → σ'.2.2.2.2 + k1 - z0 ≤ R.slots →
    (∀ (ls' : Array Slot) (H' : Heap) (locs' : List Loc), lv_has ls' nL (mx_lv r σ'.2.1) → mx_R D cy r B σ'.2.2.2 H' → va_S (fun q => B ≤ q) H0 H' locs' → W p l e R s m args below meth c H' locs' (σ'.2.2.2.1.length + k0 - n0) (σ'.2.2.2.2 + k1 - z0) Q (F0 m σ'.1 ls' (σ'.2.2.1.map (mx_v r)))) →
    W p l e R s m args below meth c H locs (σ.2.2.2.1.length + k0 - n0) (σ.2.2.2.2 + k1 - z0) Q (F0 m σ.1 ls (σ.2.2.1.map (mx_v r)))
def mx_le (σ σ' : mS) : Prop := σ.2.2.2.1.length ≤ σ'.2.2.2.1.length ∧ σ.2.2.2.2 ≤ σ'.2.2.2.2
variable {r : Nat → Value} {B : Nat} {D : va_G} {cy : Nat → ClassId} {H0 : Heap}
theorem mx_ivk_mono {tab : List mM} {call : Nat → List Value → mW → Option (Option Value × mW)} {lk : List (Nat × mL)} {i : Instr} {st st' : List Value} {w w' : mW} (h : mx_ivk tab call lk i st w = some (st', w')) : w.1.length ≤ w'.1.length ∧ w.2 ≤ w'.2 := by
  unfold mx_ivk at h
  repeat' split at h
  all_goals first | (cases h; done) | skip
  all_goals
    cases h
    rename_i hm
    simp only [Bool.and_eq_true] at hm
    exact ⟨Nat.le_of_ble_eq_true hm.1, Nat.le_of_ble_eq_true hm.2⟩
theorem mx_step_mono {kb : mK} {tab : List mM} {call : Nat → List Value → mW → Option (Option Value × mW)} {sc : Option Nat} {M : mM} {σ σ' : mS} (h : mx_step kb tab call sc M σ = some σ') : mx_le σ σ' := by
  unfold mx_step at h
  split at h
  · cases h
  · split at h
    · cases h; exact ⟨Nat.le_refl _, Nat.le_refl _⟩
    · split at h
      · cases h; exact ⟨Nat.le_refl _, Nat.le_refl _⟩
      · split at h
        · cases h; exact ⟨Nat.le_refl _, Nat.le_refl _⟩
        · split at h
          · rename_i hm
            cases h; exact mx_mem_mono hm
          · split at h
            · rename_i hm
              cases h; exact mx_ivk_mono hm
            · cases h
theorem mx_rowok_spec {bytes : ByteArray} {pc : Nat} {i : Instr} (h : mx_rowok bytes (pc, i) = true) : ∃ n, decode bytes pc = .ok (i, n) ∧ (n = mx_len i ∨ mx_isT i = true) := by
  unfold mx_rowok at h
  split at h
  · rename_i i' n hd
    simp only [Bool.and_eq_true, Bool.or_eq_true, decide_eq_true_eq] at h
    obtain ⟨h1, h2⟩ := h
    dsimp only at hd h1 h2
    subst h1
    exact ⟨n, hd, h2.imp Nat.eq_of_beq_eq_true id⟩
  · cases h
theorem mx_lki {rows : List (Nat × Instr)} {i : Nat} {v : Instr} (h : rows.lookup i = some v) : (i, v) ∈ rows := by
  induction rows with
  | nil => simp at h
  | cons q t ih =>
    obtain ⟨j, u⟩ := q
    by_cases hj : i = j
    · subst hj
      simp [List.lookup] at h
      simp [h]
    · have : (i == j) = false := by simpa using hj
      simp [List.lookup, this] at h
      exact List.mem_cons_of_mem _ (ih h)
/-- what a step asks of a method's record -/
def mx_wok (nms : Nat → Option MethodName) (M : mM) : Prop := (∀ x ∈ M.2.2.2.2.1, mx_rowok M.2.1 x = true) ∧ (∀ x ∈ M.2.2.2.2.2.1, mx_lkok nms M.1.cls x = true) ∧ ∀ ci, M.2.2.2.2.2.2 = some ci → M.1.name = "<init>" ∧ ∃ q, mx_cl[ci]? = some q ∧ M.1.cls = q.1
theorem mx_wok_of {nms : Nat → Option MethodName} {M : mM} (h : mx_mok nms M = true) : mx_wok nms M := by
  obtain ⟨m1, m2, m3, m4, m5, m6, m7, m8, m9, m10, m11⟩ := mx_Mok h
  exact ⟨m1, m2, m11⟩
set_option maxHeartbeats 4000000 in
theorem mx_step_St {kb : mK} {tab : List mM} {call : Nat → List Value → mW → Option (Option Value × mW)} {sc : Option Nat} {M : mM} {d : Nat} {σ σ' : mS} (htab : ∀ M ∈ tab, mx_mok (fun a => tab[a]?.map (fun M => M.1)) M = true) (hM : mx_wok (fun a => tab[a]?.map (fun M => M.1)) M)
    (X : mx_X kb p R s m meth c D cy r B M sc H0 d) (hcall : ∀ a As w v w', call a As w = some (v, w') → ∀ M, tab[a]? = some M → mx_Met l D cy r B M d As w v w') (h : mx_step kb tab call sc M σ = some σ') : mx_St p l e R s m args below meth c D cy r B H0 M.2.2.1.1 σ σ' := by
  obtain ⟨hx, hb, hml, hown, hE, hK, hr, hsc, hnm, hfr, hlo, hkb⟩ := X
  obtain ⟨m1, m2, m11⟩ := hM
  intro Q n0 z0 k0 k1 H ls locs hl hR hS hn0 hz0 hrc hrs k
  obtain ⟨pc, lv, st, w⟩ := σ
  unfold mx_step at h
  split at h
  · cases h
  · rename_i i hi
    obtain ⟨n, hd, hn⟩ := mx_rowok_spec (m1 _ (mx_lki hi))
    have hd' : mx_isT i = false → decode M.2.1 pc = .ok (i, mx_len i) := fun q => by
      rcases hn with hn | hn
      · rw [hn] at hd; exact hd
      · rw [q] at hn; cases hn
    split at h
    · rename_i st' hp
      cases h
      have hT : mx_isT i = false := by
        cases i <;> first | rfl | (simp [mx_pure] at hp; done) | (cases hp; done)
      exact mx_pure_W hx hb hr (hd' hT) hp (k ls H locs hl hR hS)
    · split at h
      · rename_i lv' st' hp
        cases h
        have hT : mx_isT i = false := by
          cases i <;> first | rfl | (simp [mx_loc] at hp; done) | (cases hp; done)
        exact mx_loc_W hx hb hr hl (hd' hT) hp (fun ls' hl' => k ls' H locs hl' hR hS)
      · split at h
        · rename_i pc' st' hp
          cases h
          exact mx_br_W hx hb hkb hr hd (hn.imp id (fun q => by cases i <;> first | (cases q; done) | exact ⟨_, _, _, _, rfl⟩)) hp (k ls H locs hl hR hS)
        · split at h
          · rename_i st' w' hp
            cases h
            have hT : mx_isT i = false := by
              cases i <;> first | rfl | (simp [mx_mem] at hp; done) | (cases hp; done)
            exact mx_mem_W hx hb hkb hE hown hK hr m2 (fun ci q => by rw [hnm]; exact m11 ci q) hsc (by omega) (by omega) (hl.1.trans hml.symm) hR hS hn0 hz0 hrc hrs (hd' hT) hp (fun H' locs' hR' hS' => k ls H' locs' hl hR' hS')
          · split at h
            · rename_i st' w' hp
              cases h
              have hT : mx_isT i = false := by
                cases i <;> first | rfl | (simp [mx_ivk] at hp; done) | (cases hp; done)
              exact mx_ivk_W hx hb hml hl.1 hE hown hK hr m2 htab hfr hlo hcall hR hS hn0 hz0 hrc hrs (hd' hT) hp (fun H' locs' hR' hS' => k ls H' locs' hl hR' hS')
            · cases h
end MX5
end
section
section MX6
variable {p : Program} {l : Launch} {e : Env} {R : Room} {s : State} {m : MethodId} {args : Array Value} {below : List Frame} {meth : Method} {c : Code}
variable {r : Nat → Value} {B : Nat} {D : va_G} {cy : Nat → ClassId} {H0 : Heap}
/-- a jump that stands for many steps -/
def mx_Jmp (p : Program) (l : Launch) (e : Env) (R : Room) (s : State) (m : MethodId) (args : Array Value) (below : List Frame) (meth : Method) (c : Code) (D : va_G) (cy : Nat → ClassId) (r : Nat → Value) (B : Nat) (H0 : Heap) (nL : Nat) (jmp : mS → Option mS) : Prop :=
  ∀ σ σ', jmp σ = some σ' → mx_le σ σ' ∧ mx_St p l e R s m args below meth c D cy r B H0 nL σ σ'
theorem mx_stp_mono {kb : mK} {tab : List mM} {call : Nat → List Value → mW → Option (Option Value × mW)} {sc : Option Nat} {jmp : mS → Option mS} (hj : ∀ σ σ', jmp σ = some σ' → mx_le σ σ') {M : mM} {σ σ' : mS} (h : mx_stp kb tab call sc jmp M σ = some σ') : mx_le σ σ' := by
  unfold mx_stp at h
  split at h
  · rename_i hq
    cases h; exact hj _ _ hq
  · exact mx_step_mono h
theorem mx_runN_mono {kb : mK} {tab : List mM} {call : Nat → List Value → mW → Option (Option Value × mW)} {sc : Option Nat} {jmp : mS → Option mS} (hj : ∀ σ σ', jmp σ = some σ' → mx_le σ σ') {M : mM} : ∀ (n : Nat) {σ σ' : mS}, mx_runN kb tab call sc jmp M n σ = some σ' → mx_le σ σ'
  | 0, σ, σ', h => by cases h; exact ⟨Nat.le_refl _, Nat.le_refl _⟩
  | n + 1, σ, σ', h => by
    unfold mx_runN at h
    split at h
    · rename_i σ1 h1
      have a := mx_stp_mono hj h1
      have b := mx_runN_mono hj n h
      exact ⟨Nat.le_trans a.1 b.1, Nat.le_trans a.2 b.2⟩
    · cases h
theorem mx_stp_St {kb : mK} {tab : List mM} {call : Nat → List Value → mW → Option (Option Value × mW)} {sc : Option Nat} {jmp : mS → Option mS} {M : mM} {d : Nat} {σ σ' : mS} (htab : ∀ M ∈ tab, mx_mok (fun a => tab[a]?.map (fun M => M.1)) M = true) (hM : mx_wok (fun a => tab[a]?.map (fun M => M.1)) M)
    (X : mx_X kb p R s m meth c D cy r B M sc H0 d) (hcall : ∀ a As w v w', call a As w = some (v, w') → ∀ M, tab[a]? = some M → mx_Met l D cy r B M d As w v w') (hj : mx_Jmp p l e R s m args below meth c D cy r B H0 M.2.2.1.1 jmp) (h : mx_stp kb tab call sc jmp M σ = some σ') : mx_St p l e R s m args below meth c D cy r B H0 M.2.2.1.1 σ σ' := by
  unfold mx_stp at h
  split at h
  · rename_i hq
    cases h; exact (hj _ _ hq).2
  · exact mx_step_St htab hM X hcall h
/-- many steps -/
theorem mx_runN_St {kb : mK} {tab : List mM} {call : Nat → List Value → mW → Option (Option Value × mW)} {sc : Option Nat} {jmp : mS → Option mS} {M : mM} {d : Nat} (htab : ∀ M ∈ tab, mx_mok (fun a => tab[a]?.map (fun M => M.1)) M = true) (hM : mx_wok (fun a => tab[a]?.map (fun M => M.1)) M)
    (X : mx_X kb p R s m meth c D cy r B M sc H0 d) (hcall : ∀ a As w v w', call a As w = some (v, w') → ∀ M, tab[a]? = some M → mx_Met l D cy r B M d As w v w') (hj : mx_Jmp p l e R s m args below meth c D cy r B H0 M.2.2.1.1 jmp) : ∀ (n : Nat) {σ σ' : mS}, mx_runN kb tab call sc jmp M n σ = some σ' → mx_St p l e R s m args below meth c D cy r B H0 M.2.2.1.1 σ σ'
  | 0, σ, σ', h => by
    cases h
    exact fun Q n0 z0 k0 k1 H ls locs hl hR hS _ _ _ _ k => k ls H locs hl hR hS
  | n + 1, σ, σ', h => by
    unfold mx_runN at h
    split at h
    · rename_i σ1 h1
      have a := mx_stp_mono (fun σ σ' q => (hj σ σ' q).1) h1
      have b := mx_runN_mono (fun σ σ' q => (hj σ σ' q).1) n h
      have ih := mx_runN_St htab hM X hcall hj n h
      intro Q n0 z0 k0 k1 H ls locs hl hR hS hn0 hz0 hrc hrs k
      refine mx_stp_St htab hM X hcall hj h1 Q n0 z0 k0 k1 H ls locs hl hR hS hn0 hz0 (by have := b.1; omega) (by have := b.2; omega) (fun ls' H' locs' hl' hR' hS' => ?_)
      exact ih Q n0 z0 k0 k1 H' ls' locs' hl' hR' hS' (Nat.le_trans hn0 a.1) (Nat.le_trans hz0 a.2) hrc hrs k
    · cases h
theorem mx_ret_w {M : mM} {σ : mS} {v : Option Value} {w' : mW} (h : mx_ret M σ = some (v, w')) : w' = σ.2.2.2 := by
  unfold mx_ret at h
  split at h
  · split at h
    · split at h <;> cases h; rfl
    · cases h
  · split at h <;> cases h; rfl
  · split at h <;> cases h; rfl
  · cases h
theorem mx_loop_mono {kb : mK} {tab : List mM} {call : Nat → List Value → mW → Option (Option Value × mW)} {jmp : mS → Option mS} (hj : ∀ σ σ', jmp σ = some σ' → mx_le σ σ') {M : mM} : ∀ (n : Nat) {σ : mS} {v : Option Value} {w' : mW}, mx_loop kb tab call jmp M n σ = some (v, w') → σ.2.2.2.1.length ≤ w'.1.length ∧ σ.2.2.2.2 ≤ w'.2
  | 0, σ, v, w', h => by cases h
  | n + 1, σ, v, w', h => by
    unfold mx_loop at h
    split at h
    · rename_i x hx
      cases h
      rw [mx_ret_w hx]
      exact ⟨Nat.le_refl _, Nat.le_refl _⟩
    · split at h
      · rename_i σ1 h1
        have a := mx_stp_mono hj h1
        have b := mx_loop_mono hj n h
        exact ⟨Nat.le_trans a.1 b.1, Nat.le_trans a.2 b.2⟩
      · cases h
set_option maxHeartbeats 4000000 in
theorem mx_ret_W {kb : mK} {H : Heap} {locs : List Loc} {ls : Array Slot} {M : mM} {sc : Option Nat} {d n0 z0 : Nat} {σ : mS} {v : Option Value} {w' : mW} {nms : Nat → Option MethodName} (hM : mx_wok nms M) (X : mx_X kb p R s m meth c D cy r B M sc s.heap d) (hret : meth.sig.returnType = M.2.2.1.2.1) (hlocks : meth.locks = false) (hR : mx_R D cy r B σ.2.2.2 H) (hS : va_S (fun q => B ≤ q) s.heap H locs) (h : mx_ret M σ = some (v, w')) :
    W p l e R s m args below meth c H locs (w'.1.length - n0) (w'.2 - z0) (MQ below (mx_Qc D cy r B v w') args s (w'.1.length - n0) (w'.2 - z0) (fun q => B ≤ q)) (F0 m σ.1 ls (σ.2.2.1.map (mx_v r))) := by
  obtain ⟨hx, hb, hml, hown, hE, hK, hr, hsc, hnm, hfr, hlo, hkb⟩ := X
  obtain ⟨m1, -⟩ := hM
  have hw := mx_ret_w h
  subst hw
  obtain ⟨pc, lv, st, w⟩ := σ
  have dec : ∀ i, M.2.2.2.2.1.lookup pc = some i → mx_isT i = false → mx_len i = 1 → decode M.2.1 pc = .ok (i, 1) := by
    intro i hi hT h1
    obtain ⟨n, hd, hn⟩ := mx_rowok_spec (m1 _ (mx_lki hi))
    rcases hn with hn | hn
    · rw [hn, h1] at hd; exact hd
    · rw [hT] at hn; cases hn
  unfold mx_ret at h
  dsimp only at h
  split at h
  · rename_i v' hi
    split at h
    · rename_i ty hty
      split at h
      · rename_i hnar
        cases h
        exact W.zret hx hb (by rw [hret]; exact hty) hnar (fun t ht hW => ⟨rfl, by rw [ht]; exact hR, hS.F ht⟩) hS.2.2 (dec _ hi rfl rfl) hlocks
      · cases h
    · cases h
  · rename_i v' hi
    split at h
    · rename_i hty
      cases h
      exact W.lret hx hb (by rw [hret]; exact hty) (fun t ht hW => ⟨rfl, by rw [ht]; exact hR, hS.F ht⟩) hS.2.2 (dec _ hi rfl rfl) hlocks
    · cases h
  · rename_i hi
    split at h
    · rename_i hty
      cases h
      exact W.vret hx hb (by rw [hret]; exact hty) (fun t ht hW => ⟨rfl, by rw [ht]; exact hR, hS.F ht⟩) hS.2.2 (dec _ hi rfl rfl) hlocks
    · cases h
  · cases h
theorem mx_loop_W {kb : mK} {tab : List mM} {call : Nat → List Value → mW → Option (Option Value × mW)} {jmp : mS → Option mS} {M : mM} {d n0 z0 : Nat} {v : Option Value} {w' : mW} (htab : ∀ M ∈ tab, mx_mok (fun a => tab[a]?.map (fun M => M.1)) M = true) (hM : mx_wok (fun a => tab[a]?.map (fun M => M.1)) M)
    (X : mx_X kb p R s m meth c D cy r B M none s.heap d) (hret : meth.sig.returnType = M.2.2.1.2.1) (hlocks : meth.locks = false) (hcall : ∀ a As w v w', call a As w = some (v, w') → ∀ M, tab[a]? = some M → mx_Met l D cy r B M d As w v w') (hj : mx_Jmp p l e R s m args below meth c D cy r B s.heap M.2.2.1.1 jmp) (hrc : w'.1.length - n0 ≤ R.cells) (hrs : w'.2 - z0 ≤ R.slots) :
    ∀ (n : Nat) {σ : mS} {H : Heap} {ls : Array Slot} {locs : List Loc}, mx_loop kb tab call jmp M n σ = some (v, w') → lv_has ls M.2.2.1.1 (mx_lv r σ.2.1) → mx_R D cy r B σ.2.2.2 H → va_S (fun q => B ≤ q) s.heap H locs → n0 ≤ σ.2.2.2.1.length → z0 ≤ σ.2.2.2.2 →
      W p l e R s m args below meth c H locs (σ.2.2.2.1.length - n0) (σ.2.2.2.2 - z0) (MQ below (mx_Qc D cy r B v w') args s (w'.1.length - n0) (w'.2 - z0) (fun q => B ≤ q)) (F0 m σ.1 ls (σ.2.2.1.map (mx_v r)))
  | 0, σ, H, ls, locs, h, _, _, _, _, _ => by cases h
  | n + 1, σ, H, ls, locs, h, hl, hR, hS, hn0, hz0 => by
    unfold mx_loop at h
    split at h
    · rename_i x hx
      cases h
      have hw := mx_ret_w hx
      rw [show σ.2.2.2 = w' from hw.symm]
      exact mx_ret_W hM X hret hlocks hR hS hx
    · split at h
      · rename_i σ1 h1
        have a := mx_stp_mono (fun σ σ' q => (hj σ σ' q).1) h1
        have b := mx_loop_mono (fun σ σ' q => (hj σ σ' q).1) n h
        refine mx_stp_St htab hM X hcall hj h1 _ n0 z0 0 0 H ls locs hl hR hS hn0 hz0 (by have := b.1; omega) (by have := b.2; omega) (fun ls' H' locs' hl' hR' hS' => ?_)
        exact mx_loop_W htab hM X hret hlocks hcall hj hrc hrs n h hl' hR' hS' (Nat.le_trans hn0 a.1) (Nat.le_trans hz0 a.2)
      · cases h
theorem mx_args (hr : mx_r r B) : ∀ (a : List Value) (i : Nat), lv_args i (a.map (mx_v r)) = mx_lv r (lv_args i a)
  | [], i => rfl
  | v :: t, i => by
    have e : (mx_v r v).category = v.category := mx_cat hr v
    simp only [List.map_cons, lv_args, mx_lv]
    rw [e]
    congr 1
    exact mx_args hr t _
theorem mx_sl (hr : mx_r r B) : ∀ (a : List Value), (lg_sl (a.map (mx_v r))).length = (a.map fun v => v.category).sum
  | [] => rfl
  | v :: t => by
    have e : (mx_v r v).category = v.category := mx_cat hr v
    have ih := mx_sl hr t
    have hc : v.category = 1 ∨ v.category = 2 := by cases v <;> simp [Value.category]
    rw [List.map_cons, List.map_cons, List.sum_cons, ← ih]
    rcases hc with hc | hc <;> simp [lg_sl, List.flatMap_cons, e, hc] <;> omega
/-- a run of a method is its contract -/
theorem mx_met {kb : mK} {tab : List mM} {ovr : Nat → List Value → mW → Option (Option Value × mW)} {jmp : Nat → mS → Option mS} (htab : ∀ M ∈ tab, mx_mok (fun a => tab[a]?.map (fun M => M.1)) M = true) (hr : mx_r r B) (hkb : mx_kb kb r)
    (hovr : ∀ d a As w v w', ovr a As w = some (v, w') → ∀ M, tab[a]? = some M → mx_Met l D cy r B M (d + 1) As w v w')
    (hjmp : ∀ y M, tab[y]? = some M → ∀ (p : Program) (e : Env) (R : Room) (s : State) (m : MethodId) (args : Array Value) (below : List Frame) (meth : Method) (c : Code) (d : Nat), mx_X kb p R s m meth c D cy r B M none s.heap d → mx_Jmp p l e R s m args below meth c D cy r B s.heap M.2.2.1.1 (jmp y)) :
    ∀ (d a : Nat) (As : List Value) (w : mW) (v : Option Value) (w' : mW), mx_call kb tab ovr jmp d a As w = some (v, w') → ∀ M, tab[a]? = some M → mx_Met l D cy r B M d As w v w'
  | 0, a, As, w, v, w', h, M, hM => by cases h
  | d + 1, a, As, w, v, w', h, M, hM => by
    unfold mx_call at h
    split at h
    · rename_i x hx
      cases h
      exact hovr d a As w v w' hx M hM
    · rw [hM] at h
      dsimp only at h
      split at h
      · rename_i hsum
        have hok := htab M (List.mem_of_getElem? hM)
        obtain ⟨m1, m2, m3, m4, m5, m6, m7, m8, m9, m10, m11⟩ := mx_Mok hok
        unfold mx_Met
        refine Met.ofW (cc := M.2.1) (maxL := M.2.2.1.1) (ret := M.2.2.1.2.1) (ws' := []) m9 rfl ?_
        intro p e s m args below meth c s₁ Bd hml hv
        obtain ⟨rfl, hE, hK, hR⟩ := hv
        have hown : s.vm.findClass M.1.cls = some m.cls := findClass_of_methodNamed Bd.named
        have hnm : meth.name = M.1.name := (name_of_methodNamed Bd.named Bd.method).1
        have X : mx_X kb p (mx_room (d + 1) w w') s m meth c D cy r B M none s.heap d := ⟨Bd.exec, Bd.bytes, hml, hown, hE, hK, hr, (fun L q => by cases q), hnm, Nat.le_refl _, Nat.le_refl _, hkb⟩
        have hle : (lg_sl (As.map (mx_v r))).length ≤ M.2.2.1.1 := by rw [mx_sl hr]; exact Nat.le_of_ble_eq_true hsum
        have hl := lv_entry (As.map (mx_v r)) (n := M.2.2.1.1) hle
        rw [mx_args hr] at hl
        rw [lg_entry_eq]
        have ih := mx_met htab hr hkb hovr hjmp d
        have key := mx_loop_W (p := p) (l := l) (e := e) (R := mx_room (d + 1) w w') (s := s) (m := m) (args := (As.map (mx_v r)).toArray) (below := below) (meth := meth) (c := c) (n0 := w.1.length) (z0 := w.2) htab (mx_wok_of hok) X Bd.returns Bd.notSynchronized (fun a As w v w' q M hM => ih a As w v w' q M hM) (hjmp a M hM p e _ s m _ below meth c d X) (Nat.le_refl _) (Nat.le_refl _) 1000000 h hl hR va_S.rf (Nat.le_refl _) (Nat.le_refl _)
        refine W.cs (cells' := w.1.length - w.1.length) (slots' := w.2 - w.2) (by omega) (by omega) ?_
        exact key
      · cases h
end MX6
end
section
theorem dJ7_fill_53178_0 : decode cJ7_fill_53178 0 = .ok (.iconst 0, 1) := by decide +kernel
theorem dJ7_fill_53178_1 : decode cJ7_fill_53178 1 = .ok (.istore_n 2, 1) := by decide +kernel
theorem dJ7_fill_53178_2 : decode cJ7_fill_53178 2 = .ok (.aload_n 0, 1) := by decide +kernel
theorem dJ7_fill_53178_3 : decode cJ7_fill_53178 3 = .ok (.arraylength, 1) := by decide +kernel
theorem dJ7_fill_53178_4 : decode cJ7_fill_53178 4 = .ok (.istore_n 3, 1) := by decide +kernel
theorem dJ7_fill_53178_5 : decode cJ7_fill_53178 5 = .ok (.iload_n 2, 1) := by decide +kernel
theorem dJ7_fill_53178_6 : decode cJ7_fill_53178 6 = .ok (.iload_n 3, 1) := by decide +kernel
theorem dJ7_fill_53178_7 : decode cJ7_fill_53178 7 = .ok (.if_icmp .ge 13, 3) := by decide +kernel
theorem dJ7_fill_53178_10 : decode cJ7_fill_53178 10 = .ok (.aload_n 0, 1) := by decide +kernel
theorem dJ7_fill_53178_11 : decode cJ7_fill_53178 11 = .ok (.iload_n 2, 1) := by decide +kernel
theorem dJ7_fill_53178_12 : decode cJ7_fill_53178 12 = .ok (.iload_n 1, 1) := by decide +kernel
theorem dJ7_fill_53178_13 : decode cJ7_fill_53178 13 = .ok (.iastore, 1) := by decide +kernel
theorem dJ7_fill_53178_14 : decode cJ7_fill_53178 14 = .ok (.iinc 2 1, 3) := by decide +kernel
theorem dJ7_fill_53178_17 : decode cJ7_fill_53178 17 = .ok (.goto (-12), 3) := by decide +kernel
theorem dJ7_fill_53178_20 : decode cJ7_fill_53178 20 = .ok (.return_, 1) := by decide +kernel
theorem dX9_clearHeads_0 : decode cX9_clearHeads 0 = .ok (.iconst 0, 1) := by decide +kernel
theorem dX9_clearHeads_1 : decode cX9_clearHeads 1 = .ok (.istore_n 1, 1) := by decide +kernel
theorem dX9_clearHeads_2 : decode cX9_clearHeads 2 = .ok (.iload_n 1, 1) := by decide +kernel
theorem dX9_clearHeads_3 : decode cX9_clearHeads 3 = .ok (.sipush 2048, 3) := by decide +kernel
theorem dX9_clearHeads_6 : decode cX9_clearHeads 6 = .ok (.if_icmp .ge 16, 3) := by decide +kernel
theorem dX9_clearHeads_9 : decode cX9_clearHeads 9 = .ok (.aload_n 0, 1) := by decide +kernel
theorem dX9_clearHeads_10 : decode cX9_clearHeads 10 = .ok (.getfield 29, 3) := by decide +kernel
theorem dX9_clearHeads_13 : decode cX9_clearHeads 13 = .ok (.iload_n 1, 1) := by decide +kernel
theorem dX9_clearHeads_14 : decode cX9_clearHeads 14 = .ok (.iconst (-1), 1) := by decide +kernel
theorem dX9_clearHeads_15 : decode cX9_clearHeads 15 = .ok (.iastore, 1) := by decide +kernel
theorem dX9_clearHeads_16 : decode cX9_clearHeads 16 = .ok (.iinc 1 1, 3) := by decide +kernel
theorem dX9_clearHeads_19 : decode cX9_clearHeads 19 = .ok (.goto (-17), 3) := by decide +kernel
theorem dX9_clearHeads_22 : decode cX9_clearHeads 22 = .ok (.return_, 1) := by decide +kernel
theorem dX9_anew_105 : decode cX9_anew 105 = .ok (.iload_n 1, 1) := by decide +kernel
theorem dX9_anew_106 : decode cX9_anew 106 = .ok (.sipush 6400, 3) := by decide +kernel
theorem dX9_anew_109 : decode cX9_anew 109 = .ok (.if_icmp .ge 23, 3) := by decide +kernel
theorem dX9_anew_112 : decode cX9_anew 112 = .ok (.aload_n 0, 1) := by decide +kernel
theorem dX9_anew_113 : decode cX9_anew 113 = .ok (.getfield 69, 3) := by decide +kernel
theorem dX9_anew_116 : decode cX9_anew 116 = .ok (.iload_n 1, 1) := by decide +kernel
theorem dX9_anew_117 : decode cX9_anew 117 = .ok (.iconst 0, 1) := by decide +kernel
theorem dX9_anew_118 : decode cX9_anew 118 = .ok (.iastore, 1) := by decide +kernel
theorem dX9_anew_119 : decode cX9_anew 119 = .ok (.aload_n 0, 1) := by decide +kernel
theorem dX9_anew_120 : decode cX9_anew 120 = .ok (.getfield 72, 3) := by decide +kernel
theorem dX9_anew_123 : decode cX9_anew 123 = .ok (.iload_n 1, 1) := by decide +kernel
theorem dX9_anew_124 : decode cX9_anew 124 = .ok (.iconst 0, 1) := by decide +kernel
theorem dX9_anew_125 : decode cX9_anew 125 = .ok (.bastore, 1) := by decide +kernel
theorem dX9_anew_126 : decode cX9_anew 126 = .ok (.iinc 1 1, 3) := by decide +kernel
theorem dX9_anew_129 : decode cX9_anew 129 = .ok (.goto (-24), 3) := by decide +kernel
theorem dX7_closeReach_15 : decode cX7_closeReach 15 = .ok (.invokestatic 85, 3) := by decide +kernel
/-! ### loops that fill a row -/
section MX7
variable {p : Program} {l : Launch} {e : Env} {R : Room} {s : State} {m : MethodId} {args : Array Value} {below : List Frame} {meth : Method} {c : Code} {H : Heap} {locs : List Loc} {cells slots : Nat} {Q : State → Prop}
variable {cc : ByteArray} {pc nL : Nat} {ls : Array Slot} {r : Nat → Value} {B : Nat} {D : va_G} {cy : Nat → ClassId} {H0 : Heap}
/-- a row's picture may be changed where it isn't looked at -/
theorem mx_R.cong {w : mW} {j k n : Nat} {a a' : mI} (h : mx_R D cy r B w H) (hj : w.1[j]? = some (.inr ((k, n), .inl a))) (hk9 : k ≠ 9) (ha : ∀ q, q < n → mx_g a q = mx_g a' q) : mx_R D cy r B (w.1.set j (.inr ((k, n), .inl a')), w.2) H := by
  refine h.set hj rfl (fun q _ => rfl) ?_
  have h1 := h.2.2 j _ hj (by simp only [mx_dd]; cases hb : Nat.beq k 9 with
    | true => exact absurd (Nat.eq_of_beq_eq_true hb) hk9
    | false => rfl)
  show H[B + j]? = some (vp_cell (cy k) (n, .inl (mx_g a')))
  rw [show H[B + j]? = some (vp_cell (cy k) (n, .inl (mx_g a))) from h1]
  rw [vp_cell_i, vp_cell_i]
  unfold arrV
  congr 2
  apply Array.ext
  · simp
  · intro i h2 h3
    simp only [Array.size_ofFn] at h2
    simp [ha i h2]
theorem mx_getf (hx : p.tables.exec = Jvm.exec) (hb : c.code = cc) {own : String} {q : vw_C} {ci ix k j : Nat} (hE : mx_Env s) (hown : s.vm.findClass own = some m.cls) (hK : va_K D mx_cl (mx_tys cy) s) {w : mW} (hR : mx_R D cy r B w H) (hcl : mx_cl[ci]? = some q) (hk : k < q.2.2) {fs : List Value} (hj : w.1[j]? = some (.inl (ci, fs))) {v : Value} (hv : fs[k]? = some v)
    (hlink : (Cond.fieldLink own ix q.1 (q.2.1 k).2.1 (q.2.1 k).2.2.1).before args s = true) {rest : List Value} (hd : decode cc pc = .ok (.getfield ix, 3))
    (kk : W p l e R s m args below meth c H locs cells slots Q (F0 m (pc + 3) ls (mx_v r v :: rest))) : W p l e R s m args below meth c H locs cells slots Q (F0 m pc ls (.ref (B + j) :: rest)) := by
  obtain ⟨hws, hty, hnm, hdc, -⟩ := mx_C_of hcl
  have hts : ∀ w ∈ u_ws q.1 q.2.1 q.2.2, w.before args s = true := fun w hw => hE w (hws w hw).1 (hws w hw).2 args
  exact va_get hx hb hts (fun w h => h) hown hK (hR.P hj rfl) 0 rfl hcl k hk hlink (fun x hx => by rw [← hdc k hk]; exact hx) (by simp [hv]) hd kk
theorem mx_set_get {w : List mE} {j : Nat} {c c' : mE} (h : w[j]? = some c) : (w.set j c')[j]? = some c' := by
  simp [(List.getElem?_eq_some_iff.mp h).1]
/-- java.util.Arrays.fill of ints -/
theorem fl_fill (hx : p.tables.exec = Jvm.exec) (hb : c.code = cJ7_fill_53178) (hr : mx_r r B) (hK : va_K D mx_cl (mx_tys cy) s) {w : mW} {j n : Nat} {v : Int32} (hn : n < 2 ^ 31) {c0 : mE} (hj : w.1[j]? = some c0)
    (k : ∀ (H' : Heap) (ls' : Array Slot) (locs' : List Loc), mx_R D cy r B (w.1.set j (.inr ((0, n), .inl (v, []))), w.2) H' → va_S (fun q => B ≤ q) H0 H' locs' → W p l e R s m args below meth c H' locs' cells slots Q (F0 m 20 ls' [])) :
    ∀ (rem i : Nat) (a : mI) (H : Heap) (ls : Array Slot) (locs : List Loc), i + rem = n → (∀ q, q < i → mx_g a q = v) → mx_R D cy r B (w.1.set j (.inr ((0, n), .inl a)), w.2) H → va_S (fun q => B ≤ q) H0 H locs → lv_has ls 4 [(2, .int (nI i)), (3, .int (nI n)), (0, .ref (B + j)), (1, .int v)] → W p l e R s m args below meth c H locs cells slots Q (F0 m 5 ls []) := by
  intro rem
  induction rem with
  | zero =>
    intro i a H ls locs hi ha hR hS hl
    refine lv_iload_n hx hb dJ7_fill_53178_5 rfl (lv_at hl 0 rfl) ?_
    refine lv_iload_n hx hb dJ7_fill_53178_6 rfl (lv_at hl 1 rfl) ?_
    refine lv_icmp_ge (tgt := 20) hx hb dJ7_fill_53178_7 (by decide) (fun _ => ?_) (fun q => absurd (nI_le (by omega) (by omega)) q)
    have h2 := hR.cong (a' := (v, [])) (mx_set_get hj) (by decide) (fun q hq => by rw [ha q (by omega)]; rfl)
    simp only [List.set_set] at h2
    exact k H ls locs h2 hS
  | succ rem ih =>
    intro i a H ls locs hi ha hR hS hl
    refine lv_iload_n hx hb dJ7_fill_53178_5 rfl (lv_at hl 0 rfl) ?_
    refine lv_iload_n hx hb dJ7_fill_53178_6 rfl (lv_at hl 1 rfl) ?_
    refine lv_icmp_ge (tgt := 20) hx hb dJ7_fill_53178_7 (by decide) (fun q => absurd q (nI_ge (by omega) (by omega))) (fun _ => ?_)
    refine lv_aload_n hx hb dJ7_fill_53178_10 rfl (lv_at hl 2 rfl) ?_
    refine lv_iload_n hx hb dJ7_fill_53178_11 rfl (lv_at hl 0 rfl) ?_
    refine lv_iload_n hx hb dJ7_fill_53178_12 rfl (lv_at hl 3 rfl) ?_
    have hj2 := mx_set_get (c' := (.inr ((0, n), .inl a) : mE)) hj
    have hin : vp_in (nI i) n := vp_in_nI (by omega) hn
    refine W.iast hx hb (hR.2.2 _ _ hj2 rfl) ((hK.2 0 _ rfl).1 n (fun q => .int (mx_g a q))) (fun q => by cases q) (by show ¬ (_ ∨ (arrV _ _ _).slots.size ≤ _); rw [arrV_size]; exact hin) rfl rfl dJ7_fill_53178_13 fun H1 e1 z1 o1 => ?_
    show W p l e R s m args below meth c H1 _ cells slots Q (F0 m 14 ls [])
    have hR1 := hR.set hj2 z1 o1 (c' := .inr ((0, n), .inl (mx_s a (nI i).toNatClampNeg v))) (mx_rowI e1)
    simp only [List.set_set] at hR1
    refine lv_iinc (v := nI (i + 1)) (lv' := [(2, .int (nI (i + 1))), (3, .int (nI n)), (0, .ref (B + j)), (1, .int v)]) hx hb dJ7_fill_53178_14 hl (k := 0) rfl (by rw [nI_succ]; rfl) (by decide) rfl (fun ls hl => ?_)
    refine lv_goto (tgt := 5) hx hb dJ7_fill_53178_17 (by decide) ?_
    refine ih (i + 1) _ H1 ls _ (by omega) (fun q hq => ?_) hR1 (hS.put z1 o1 (Nat.le_add_right B j)) hl
    rw [mx_g_s, nI_clamp (by omega)]
    by_cases h : q = i
    · simp [h]
    · rw [if_neg h]; exact ha q (by omega)
/-- the reference's clearHeads -/
theorem fl_heads (hx : p.tables.exec = Jvm.exec) (hb : c.code = cX9_clearHeads) (hr : mx_r r B) (hK : va_K D mx_cl (mx_tys cy) s) (hE : mx_Env s) (hown : s.vm.findClass RX9 = some m.cls) {w : mW} {j j1 : Nat} {fs : List Value} {c0 : mE} {n : Nat} (hn : n = 2048) (hj : w.1[j]? = some c0) (hj1 : w.1[j1]? = some (.inl (9, fs))) (hf : fs[6]? = some (.ref j)) (hne : j ≠ j1)
    (k : ∀ (H' : Heap) (ls' : Array Slot) (locs' : List Loc), mx_R D cy r B (w.1.set j (.inr ((0, n), .inl (-1, []))), w.2) H' → va_S (fun q => B ≤ q) H0 H' locs' → W p l e R s m args below meth c H' locs' cells slots Q (F0 m 22 ls' [])) :
    ∀ (rem i : Nat) (a : mI) (H : Heap) (ls : Array Slot) (locs : List Loc), i + rem = n → (∀ q, q < i → mx_g a q = -1) → mx_R D cy r B (w.1.set j (.inr ((0, n), .inl a)), w.2) H → va_S (fun q => B ≤ q) H0 H locs → lv_has ls 2 [(1, .int (nI i)), (0, .ref (B + j1))] → W p l e R s m args below meth c H locs cells slots Q (F0 m 2 ls []) := by
  intro rem
  induction rem with
  | zero =>
    intro i a H ls locs hi ha hR hS hl
    refine lv_iload_n hx hb dX9_clearHeads_2 rfl (lv_at hl 0 rfl) ?_
    refine lv_sipush (v := nI n) hx hb dX9_clearHeads_3 (by rw [hn]; decide) ?_
    refine lv_icmp_ge (tgt := 22) hx hb dX9_clearHeads_6 (by decide) (fun _ => ?_) (fun q => absurd (nI_le (by omega) (by omega)) q)
    have h2 := hR.cong (a' := (-1, [])) (mx_set_get hj) (by decide) (fun q hq => by rw [ha q (by omega)]; rfl)
    simp only [List.set_set] at h2
    exact k H ls locs h2 hS
  | succ rem ih =>
    intro i a H ls locs hi ha hR hS hl
    refine lv_iload_n hx hb dX9_clearHeads_2 rfl (lv_at hl 0 rfl) ?_
    refine lv_sipush (v := nI n) hx hb dX9_clearHeads_3 (by rw [hn]; decide) ?_
    refine lv_icmp_ge (tgt := 22) hx hb dX9_clearHeads_6 (by decide) (fun q => absurd q (nI_ge (by omega) (by omega))) (fun _ => ?_)
    refine lv_aload_n hx hb dX9_clearHeads_9 rfl (lv_at hl 1 rfl) ?_
    have hj1' : (w.1.set j (.inr ((0, n), .inl a)))[j1]? = some (.inl (9, fs)) := by rw [List.getElem?_set_ne hne]; exact hj1
    have hj2 := mx_set_get (c' := (.inr ((0, n), .inl a) : mE)) hj
    have hin : vp_in (nI i) n := vp_in_nI (by omega) (by omega)
    refine mx_getf (own := RX9) (q := (RX9, TX9, 77)) (ci := 9) (k := 6) (w := (w.1.set j (.inr ((0, n), .inl a)), w.2)) hx hb hE hown hK hR rfl (by decide) hj1' hf (mx_at_use (q := 1299) (by decide +kernel) hE) dX9_clearHeads_10 ?_
    rw [mx_v_ref, hR.ref hr hj2]
    refine lv_iload_n hx hb dX9_clearHeads_13 rfl (lv_at hl 0 rfl) ?_
    refine lv_iconst (v := -1) hx hb dX9_clearHeads_14 (by decide) ?_
    refine W.iast hx hb (hR.2.2 _ _ hj2 rfl) ((hK.2 0 _ rfl).1 n (fun q => .int (mx_g a q))) (fun q => by cases q) (by show ¬ (_ ∨ (arrV _ _ _).slots.size ≤ _); rw [arrV_size]; exact hin) rfl rfl dX9_clearHeads_15 fun H1 e1 z1 o1 => ?_
    show W p l e R s m args below meth c H1 _ cells slots Q (F0 m 16 ls [])
    have hR1 := hR.set hj2 z1 o1 (c' := .inr ((0, n), .inl (mx_s a (nI i).toNatClampNeg (-1)))) (mx_rowI e1)
    simp only [List.set_set] at hR1
    refine lv_iinc (v := nI (i + 1)) (lv' := [(1, .int (nI (i + 1))), (0, .ref (B + j1))]) hx hb dX9_clearHeads_16 hl (k := 0) rfl (by rw [nI_succ]; rfl) (by decide) rfl (fun ls hl => ?_)
    refine lv_goto (tgt := 2) hx hb dX9_clearHeads_19 (by decide) ?_
    refine ih (i + 1) _ H1 ls _ (by omega) (fun q hq => ?_) hR1 (hS.put z1 o1 (Nat.le_add_right B j)) hl
    rw [mx_g_s, nI_clamp (by omega)]
    by_cases h : q = i
    · simp [h]
    · rw [if_neg h]; exact ha q (by omega)
/-- the reference's anew: the rows ways and reach -/
theorem fl_anew (hx : p.tables.exec = Jvm.exec) (hb : c.code = cX9_anew) (hr : mx_r r B) (hK : va_K D mx_cl (mx_tys cy) s) (hE : mx_Env s) (hown : s.vm.findClass RX9 = some m.cls) {w : mW} {j g j1 : Nat} {fs : List Value} {c0 c1 : mE} {n : Nat} (hn : n = 6400) (hj : w.1[j]? = some c0) (hg : w.1[g]? = some c1) (hj1 : w.1[j1]? = some (.inl (9, fs))) (hf : fs[39]? = some (.ref j)) (hf2 : fs[40]? = some (.ref g)) (hne : j ≠ j1) (hne2 : g ≠ j1) (hjg : j ≠ g)
    (k : ∀ (H' : Heap) (ls' : Array Slot) (locs' : List Loc), lv_has ls' 2 [(1, .int (nI n)), (0, .ref (B + j1))] → mx_R D cy r B ((w.1.set j (.inr ((0, n), .inl (0, [])))).set g (.inr ((2, n), .inl (0, []))), w.2) H' → va_S (fun q => B ≤ q) H0 H' locs' → W p l e R s m args below meth c H' locs' cells slots Q (F0 m 132 ls' [])) :
    ∀ (rem i : Nat) (a b : mI) (H : Heap) (ls : Array Slot) (locs : List Loc), i + rem = n → (∀ q, q < i → mx_g a q = 0) → (∀ q, q < i → mx_g b q = 0) → mx_R D cy r B ((w.1.set j (.inr ((0, n), .inl a))).set g (.inr ((2, n), .inl b)), w.2) H → va_S (fun q => B ≤ q) H0 H locs → lv_has ls 2 [(1, .int (nI i)), (0, .ref (B + j1))] → W p l e R s m args below meth c H locs cells slots Q (F0 m 105 ls []) := by
  intro rem
  induction rem with
  | zero =>
    intro i a b H ls locs hi ha hb2 hR hS hl
    have hi : i = n := by omega
    rw [hi] at hl ha hb2
    refine lv_iload_n hx hb dX9_anew_105 rfl (lv_at hl 0 rfl) ?_
    refine lv_sipush (v := nI n) hx hb dX9_anew_106 (by rw [hn]; decide) ?_
    refine lv_icmp_ge (tgt := 132) hx hb dX9_anew_109 (by decide) (fun _ => ?_) (fun q => absurd (nI_le (by omega) (by omega)) q)
    have hg1 : (w.1.set j (.inr ((0, n), .inl a)))[g]? = some c1 := by rw [List.getElem?_set_ne hjg]; exact hg
    have h2 := hR.cong (a' := (0, [])) (mx_set_get hg1) (by decide) (fun q hq => by rw [hb2 q hq]; rfl)
    simp only [List.set_set] at h2
    have hj3 : ((w.1.set j (.inr ((0, n), .inl a))).set g (.inr ((2, n), .inl (0, []))))[j]? = some (.inr ((0, n), .inl a)) := by rw [List.getElem?_set_ne (Ne.symm hjg)]; exact mx_set_get hj
    have h3 := h2.cong (a' := (0, [])) hj3 (by decide) (fun q hq => by rw [ha q hq]; rfl)
    refine k H ls locs hl ?_ hS
    have e1 : (((w.1.set j (.inr ((0, n), .inl a))).set g (.inr ((2, n), .inl (0, [])))).set j (.inr ((0, n), .inl (0, [])))) = ((w.1.set j (.inr ((0, n), .inl (0, [])))).set g (.inr ((2, n), .inl (0, []))) : List mE) := by
      rw [List.set_comm _ _ (Ne.symm hjg), List.set_set]
    dsimp only at h3
    rw [e1] at h3
    exact h3
  | succ rem ih =>
    intro i a b H ls locs hi ha hb2 hR hS hl
    refine lv_iload_n hx hb dX9_anew_105 rfl (lv_at hl 0 rfl) ?_
    refine lv_sipush (v := nI n) hx hb dX9_anew_106 (by rw [hn]; decide) ?_
    refine lv_icmp_ge (tgt := 132) hx hb dX9_anew_109 (by decide) (fun q => absurd q (nI_ge (by omega) (by omega))) (fun _ => ?_)
    refine lv_aload_n hx hb dX9_anew_112 rfl (lv_at hl 1 rfl) ?_
    have hin : vp_in (nI i) n := vp_in_nI (by omega) (by omega)
    have hj1' : ((w.1.set j (.inr ((0, n), .inl a))).set g (.inr ((2, n), .inl b)))[j1]? = some (.inl (9, fs)) := by rw [List.getElem?_set_ne hne2, List.getElem?_set_ne hne]; exact hj1
    have hj2 : ((w.1.set j (.inr ((0, n), .inl a))).set g (.inr ((2, n), .inl b)))[j]? = some (.inr ((0, n), .inl a)) := by rw [List.getElem?_set_ne (Ne.symm hjg)]; exact mx_set_get hj
    refine mx_getf (own := RX9) (q := (RX9, TX9, 77)) (ci := 9) (k := 39) (w := ((w.1.set j (.inr ((0, n), .inl a))).set g (.inr ((2, n), .inl b)), w.2)) hx hb hE hown hK hR rfl (by decide) hj1' hf (mx_at_use (q := 1332) (by decide +kernel) hE) dX9_anew_113 ?_
    rw [mx_v_ref, hR.ref hr hj2]
    refine lv_iload_n hx hb dX9_anew_116 rfl (lv_at hl 0 rfl) ?_
    refine lv_iconst (v := 0) hx hb dX9_anew_117 (by decide) ?_
    refine W.iast hx hb (hR.2.2 _ _ hj2 rfl) ((hK.2 0 _ rfl).1 n (fun q => .int (mx_g a q))) (fun q => by cases q) (by show ¬ (_ ∨ (arrV _ _ _).slots.size ≤ _); rw [arrV_size]; exact hin) rfl rfl dX9_anew_118 fun H1 e1 z1 o1 => ?_
    show W p l e R s m args below meth c H1 _ cells slots Q (F0 m 119 ls [])
    have hR1 := hR.set hj2 z1 o1 (c' := .inr ((0, n), .inl (mx_s a (nI i).toNatClampNeg 0))) (mx_rowI e1)
    have e2 : (((w.1.set j (.inr ((0, n), .inl a))).set g (.inr ((2, n), .inl b))).set j (.inr ((0, n), .inl (mx_s a (nI i).toNatClampNeg 0)))) = ((w.1.set j (.inr ((0, n), .inl (mx_s a (nI i).toNatClampNeg 0)))).set g (.inr ((2, n), .inl b)) : List mE) := by
      rw [List.set_comm _ _ (Ne.symm hjg), List.set_set]
    dsimp only at hR1
    rw [e2] at hR1
    have hS1 := hS.put (k := (nI i).toNatClampNeg) z1 o1 (Nat.le_add_right B j)
    refine lv_aload_n hx hb dX9_anew_119 rfl (lv_at hl 1 rfl) ?_
    have hj1'' : ((w.1.set j (.inr ((0, n), .inl (mx_s a (nI i).toNatClampNeg 0)))).set g (.inr ((2, n), .inl b)))[j1]? = some (.inl (9, fs)) := by rw [List.getElem?_set_ne hne2, List.getElem?_set_ne hne]; exact hj1
    have hg1 : (w.1.set j (.inr ((0, n), .inl (mx_s a (nI i).toNatClampNeg 0))))[g]? = some c1 := by rw [List.getElem?_set_ne hjg]; exact hg
    have hg2 := mx_set_get (c' := (.inr ((2, n), .inl b) : mE)) hg1
    refine mx_getf (own := RX9) (q := (RX9, TX9, 77)) (ci := 9) (k := 40) (w := ((w.1.set j (.inr ((0, n), .inl (mx_s a (nI i).toNatClampNeg 0)))).set g (.inr ((2, n), .inl b)), w.2)) hx hb hE hown hK hR1 rfl (by decide) hj1'' hf2 (mx_at_use (q := 1333) (by decide +kernel) hE) dX9_anew_120 ?_
    rw [mx_v_ref, hR1.ref hr hg2]
    refine lv_iload_n hx hb dX9_anew_123 rfl (lv_at hl 0 rfl) ?_
    refine lv_iconst (v := 0) hx hb dX9_anew_124 (by decide) ?_
    refine W.zast hx hb (hR1.2.2 _ _ hg2 rfl) ((hK.2 2 _ rfl).1 n (fun q => .int (mx_g b q))) (fun q => by cases q) (by show ¬ (_ ∨ (arrV _ _ _).slots.size ≤ _); rw [arrV_size]; exact hin) rfl rfl dX9_anew_125 fun H2 e3 z2 o2 => ?_
    show W p l e R s m args below meth c H2 _ cells slots Q (F0 m 126 ls [])
    have hR2 := hR1.set hg2 z2 o2 (c' := .inr ((2, n), .inl (mx_s b (nI i).toNatClampNeg 0))) (mx_rowI e3)
    simp only [List.set_set] at hR2
    refine lv_iinc (v := nI (i + 1)) (lv' := [(1, .int (nI (i + 1))), (0, .ref (B + j1))]) hx hb dX9_anew_126 hl (k := 0) rfl (by rw [nI_succ]; rfl) (by decide) rfl (fun ls hl => ?_)
    refine lv_goto (tgt := 105) hx hb dX9_anew_129 (by decide) ?_
    refine ih (i + 1) _ _ H2 ls _ (by omega) (fun q hq => ?_) (fun q hq => ?_) hR2 (hS1.put z2 o2 (Nat.le_add_right B g)) hl
    · rw [mx_g_s, nI_clamp (by omega)]
      by_cases h : q = i
      · simp [h]
      · rw [if_neg h]; exact ha q (by omega)
    · rw [mx_g_s, nI_clamp (by omega)]
      by_cases h : q = i
      · simp [h]
      · rw [if_neg h]; exact hb2 q (by omega)
end MX7
end
section
theorem dX8_set_0 : decode cX8_set 0 = .ok (.iload_n 1, 1) := by decide +kernel
theorem dX8_set_1 : decode cX8_set 1 = .ok (.ifCond .lt 13, 3) := by decide +kernel
theorem dX8_set_4 : decode cX8_set 4 = .ok (.iload_n 1, 1) := by decide +kernel
theorem dX8_set_5 : decode cX8_set 5 = .ok (.aload_n 0, 1) := by decide +kernel
theorem dX8_set_6 : decode cX8_set 6 = .ok (.arraylength, 1) := by decide +kernel
theorem dX8_set_7 : decode cX8_set 7 = .ok (.if_icmp .ge 7, 3) := by decide +kernel
theorem dX8_set_10 : decode cX8_set 10 = .ok (.aload_n 0, 1) := by decide +kernel
theorem dX8_set_11 : decode cX8_set 11 = .ok (.iload_n 1, 1) := by decide +kernel
theorem dX8_set_12 : decode cX8_set 12 = .ok (.iload_n 2, 1) := by decide +kernel
theorem dX8_set_13 : decode cX8_set 13 = .ok (.iastore, 1) := by decide +kernel
theorem dX8_set_14 : decode cX8_set 14 = .ok (.return_, 1) := by decide +kernel
theorem dX5_append_5 : decode cX5_append 5 = .ok (.iload 4, 2) := by decide +kernel
theorem dX5_append_7 : decode cX5_append 7 = .ok (.ifCond .lt 42, 3) := by decide +kernel
theorem dX5_append_10 : decode cX5_append 10 = .ok (.aload_n 0, 1) := by decide +kernel
theorem dX5_append_11 : decode cX5_append 11 = .ok (.getfield 9, 3) := by decide +kernel
theorem dX5_append_14 : decode cX5_append 14 = .ok (.aload_n 0, 1) := by decide +kernel
theorem dX5_append_15 : decode cX5_append 15 = .ok (.getfield 25, 3) := by decide +kernel
theorem dX5_append_18 : decode cX5_append 18 = .ok (.lload_n 1, 1) := by decide +kernel
theorem dX5_append_19 : decode cX5_append 19 = .ok (.bipush 8, 2) := by decide +kernel
theorem dX5_append_21 : decode cX5_append 21 = .ok (.iload 4, 2) := by decide +kernel
theorem dX5_append_23 : decode cX5_append 23 = .ok (.imul, 1) := by decide +kernel
theorem dX5_append_24 : decode cX5_append 24 = .ok (.lushr, 1) := by decide +kernel
theorem dX5_append_25 : decode cX5_append 25 = .ok (.l2i, 1) := by decide +kernel
theorem dX5_append_26 : decode cX5_append 26 = .ok (.sipush 255, 3) := by decide +kernel
theorem dX5_append_29 : decode cX5_append 29 = .ok (.iand, 1) := by decide +kernel
theorem dX5_append_30 : decode cX5_append 30 = .ok (.invokestatic 29, 3) := by decide +kernel
theorem dX5_append_33 : decode cX5_append 33 = .ok (.aload_n 0, 1) := by decide +kernel
theorem dX5_append_34 : decode cX5_append 34 = .ok (.dup, 1) := by decide +kernel
theorem dX5_append_35 : decode cX5_append 35 = .ok (.getfield 25, 3) := by decide +kernel
theorem dX5_append_38 : decode cX5_append 38 = .ok (.iconst 1, 1) := by decide +kernel
theorem dX5_append_39 : decode cX5_append 39 = .ok (.iadd, 1) := by decide +kernel
theorem dX5_append_40 : decode cX5_append 40 = .ok (.putfield 25, 3) := by decide +kernel
theorem dX5_append_43 : decode cX5_append 43 = .ok (.iinc 4 (-1), 3) := by decide +kernel
theorem dX5_append_46 : decode cX5_append 46 = .ok (.goto (-41), 3) := by decide +kernel
theorem dX5_append_49 : decode cX5_append 49 = .ok (.return_, 1) := by decide +kernel
theorem dX9_feed_50 : decode cX9_feed 50 = .ok (.iload 4, 2) := by decide +kernel
theorem dX9_feed_52 : decode cX9_feed 52 = .ok (.ifCond .lt 40, 3) := by decide +kernel
theorem dX9_feed_55 : decode cX9_feed 55 = .ok (.aload_n 0, 1) := by decide +kernel
theorem dX9_feed_56 : decode cX9_feed 56 = .ok (.getfield 66, 3) := by decide +kernel
theorem dX9_feed_59 : decode cX9_feed 59 = .ok (.aload_n 0, 1) := by decide +kernel
theorem dX9_feed_60 : decode cX9_feed 60 = .ok (.getfield 172, 3) := by decide +kernel
theorem dX9_feed_63 : decode cX9_feed 63 = .ok (.lload_n 1, 1) := by decide +kernel
theorem dX9_feed_64 : decode cX9_feed 64 = .ok (.bipush 8, 2) := by decide +kernel
theorem dX9_feed_66 : decode cX9_feed 66 = .ok (.iload 4, 2) := by decide +kernel
theorem dX9_feed_68 : decode cX9_feed 68 = .ok (.imul, 1) := by decide +kernel
theorem dX9_feed_69 : decode cX9_feed 69 = .ok (.lshr, 1) := by decide +kernel
theorem dX9_feed_70 : decode cX9_feed 70 = .ok (.l2i, 1) := by decide +kernel
theorem dX9_feed_71 : decode cX9_feed 71 = .ok (.sipush 255, 3) := by decide +kernel
theorem dX9_feed_74 : decode cX9_feed 74 = .ok (.iand, 1) := by decide +kernel
theorem dX9_feed_75 : decode cX9_feed 75 = .ok (.iastore, 1) := by decide +kernel
theorem dX9_feed_76 : decode cX9_feed 76 = .ok (.aload_n 0, 1) := by decide +kernel
theorem dX9_feed_77 : decode cX9_feed 77 = .ok (.dup, 1) := by decide +kernel
theorem dX9_feed_78 : decode cX9_feed 78 = .ok (.getfield 172, 3) := by decide +kernel
theorem dX9_feed_81 : decode cX9_feed 81 = .ok (.iconst 1, 1) := by decide +kernel
theorem dX9_feed_82 : decode cX9_feed 82 = .ok (.iadd, 1) := by decide +kernel
theorem dX9_feed_83 : decode cX9_feed 83 = .ok (.putfield 172, 3) := by decide +kernel
theorem dX9_feed_86 : decode cX9_feed 86 = .ok (.iinc 4 (-1), 3) := by decide +kernel
theorem dX9_feed_89 : decode cX9_feed 89 = .ok (.goto (-39), 3) := by decide +kernel
/-! ### the two loops of feed -/
section MXF
variable {p : Program} {l : Launch} {e : Env} {R : Room} {s : State} {m : MethodId} {args : Array Value} {below : List Frame} {meth : Method} {c : Code} {H : Heap} {locs : List Loc} {cells slots : Nat} {Q : State → Prop}
variable {cc : ByteArray} {pc nL : Nat} {ls : Array Slot} {r : Nat → Value} {B : Nat} {D : va_G} {cy : Nat → ClassId} {H0 : Heap}
theorem fm_set (hr : mx_r r B) {w : mW} {j i n : Nat} {a : mI} {v : Int32} (hj : w.1[j]? = some (.inr ((0, n), .inl a))) (hi : i < n) (hn : n < 2 ^ 31) : mx_Met l D cy r B mt_X8_set 0 [.ref j, .int (nI i), .int v] w none (w.1.set j (.inr ((0, n), .inl (mx_s a i v))), w.2) := by
  unfold mx_Met
  refine Met.ofW (cc := cX8_set) (maxL := 3) (ret := none) (ws' := []) (by decide +kernel) rfl ?_
  intro p e s m args below meth c s₁ Bd hml hv
  obtain ⟨rfl, hE, hK, hR⟩ := hv
  have hx := Bd.exec
  have hb := Bd.bytes
  have hj' := hR.ref hr hj
  simp only [List.length_set, Nat.sub_self]
  have hl := lv_entry (([.ref j, .int (nI i), .int v] : List Value).map (mx_v r)) (n := 3) (by rw [mx_sl hr]; simp [Value.category])
  rw [mx_args hr] at hl
  rw [lg_entry_eq]
  generalize (lg_sl (([.ref j, .int (nI i), .int v] : List Value).map (mx_v r)) ++ List.replicate (3 - (lg_sl (([.ref j, .int (nI i), .int v] : List Value).map (mx_v r))).length) Slot.unset).toArray = ls at hl ⊢
  have hl : lv_has ls 3 [(0, .ref (B + j)), (1, .int (nI i)), (2, .int v)] := by
    have e1 : mx_lv r (lv_args 0 [.ref j, .int (nI i), .int v]) = [(0, .ref (B + j)), (1, .int (nI i)), (2, .int v)] := by
      show [(0, r j), (1, Value.int (nI i)), (2, Value.int v)] = _
      rw [hj']
    rw [e1] at hl
    exact hl
  have hin : vp_in (nI i) n := vp_in_nI hi hn
  refine lv_iload_n hx hb dX8_set_0 rfl (lv_at hl 1 rfl) ?_
  refine lv_if_lt (tgt := 14) hx hb dX8_set_1 (by decide) (fun q => absurd q (nI_pos (by omega))) (fun _ => ?_)
  refine lv_iload_n hx hb dX8_set_4 rfl (lv_at hl 1 rfl) ?_
  refine lv_aload_n hx hb dX8_set_5 rfl (lv_at hl 0 rfl) ?_
  refine va_alen (v := nI n) hx hb hK (hR.P hj rfl) 0 0 rfl rfl rfl dX8_set_6 ?_
  refine lv_icmp_ge (tgt := 14) hx hb dX8_set_7 (by decide) (fun q => absurd q (nI_ge hi hn)) (fun _ => ?_)
  refine lv_aload_n hx hb dX8_set_10 rfl (lv_at hl 0 rfl) ?_
  refine lv_iload_n hx hb dX8_set_11 rfl (lv_at hl 1 rfl) ?_
  refine lv_iload_n hx hb dX8_set_12 rfl (lv_at hl 2 rfl) ?_
  refine W.iast hx hb (hR.2.2 _ _ hj rfl) ((hK.2 0 _ rfl).1 n (fun q => .int (mx_g a q))) (fun q => by cases q) (by show ¬ (_ ∨ (arrV _ _ _).slots.size ≤ _); rw [arrV_size]; exact hin) rfl rfl dX8_set_13 fun H1 e1 z1 o1 => ?_
  show W p l e _ s m _ below meth c H1 _ 0 0 _ (F0 m 14 ls [])
  have hR1 := hR.set hj z1 o1 (c' := .inr ((0, n), .inl (mx_s a (nI i).toNatClampNeg v))) (mx_rowI e1)
  rw [nI_clamp (by omega)] at hR1
  have hS1 : va_S (fun q => B ≤ q) s.heap H1 ([] ++ [⟨B + j, (nI i).toNatClampNeg⟩]) := va_S.put va_S.rf z1 o1 (Nat.le_add_right B j)
  exact W.vret hx hb Bd.returns (fun t ht hW => ⟨rfl, by rw [ht]; exact hR1, hS1.F ht⟩) hS1.2.2 dX8_set_14
theorem fm_pred {k : Nat} : nI (k + 1) - 1 = nI k := nI_pred k
theorem fm_st8 (hx : p.tables.exec = Jvm.exec) (hb : c.code = cc) (hK : va_K D mx_cl (mx_tys cy) s) {w : mW} (hR : mx_R D cy r B w H) {j n : Nat} {a : mI} {i v : Int32} (hj : w.1[j]? = some (.inr ((0, n), .inl a))) (hin : vp_in i n) {rest : List Value} (hd : decode cc pc = .ok (.iastore, 1))
    (k : ∀ H1 : Heap, H1.size = H.size → (∀ q, q ≠ B + j → H1[q]? = H[q]?) → mx_R D cy r B (w.1.set j (.inr ((0, n), .inl (mx_s a i.toNatClampNeg v))), w.2) H1 → W p l e R s m args below meth c H1 (locs ++ [⟨B + j, i.toNatClampNeg⟩]) cells slots Q (F0 m (pc + 1) ls rest)) :
    W p l e R s m args below meth c H locs cells slots Q (F0 m pc ls (.int v :: .int i :: .ref (B + j) :: rest)) := by
  refine W.iast hx hb (hR.2.2 _ _ hj rfl) ((hK.2 0 _ rfl).1 n (fun q => .int (mx_g a q))) (fun q => by cases q) (by show ¬ (_ ∨ (arrV _ _ _).slots.size ≤ _); rw [arrV_size]; exact hin) rfl rfl hd fun H1 e1 z1 o1 => ?_
  exact k H1 z1 o1 (hR.set hj z1 o1 (c' := .inr ((0, n), .inl (mx_s a i.toNatClampNeg v))) (mx_rowI e1))
/-- the class's append: from its loop's head to its end -/
theorem fl_append (hx : p.tables.exec = Jvm.exec) (hb : c.code = cX5_append) (hml : c.maxLocals = 5) (hr : mx_r r B) (hK : va_K D mx_cl (mx_tys cy) s) (hE : mx_Env s) (hown : s.vm.findClass RX5 = some m.cls) (hfr : 1 ≤ R.frames) (hlo : 40 ≤ R.locals) (hcs : cells ≤ R.cells ∧ slots ≤ R.slots) {w : mW} {jt jb : Nat} {fs : List Value} {c0 c1 : mE} {V : Int64} (hjt : w.1[jt]? = some c0) (hjb : w.1[jb]? = some c1) (hf : fs[0]? = some (.ref jb)) (hfl : fs.length = 9) (hne : jt ≠ jb) {L1 : Nat} (hL1 : L1 ≤ 800)
    (k : ∀ (H' : Heap) (ls' : Array Slot) (locs' : List Loc) (a : mI), lv_has ls' 5 [(0, .ref (B + jt))] → mx_R D cy r B ((w.1.set jt (.inl (5, fs.set 4 (.int (nI L1))))).set jb (.inr ((0, 800), .inl a)), w.2) H' → va_S (fun q => B ≤ q) H0 H' locs' → W p l e R s m args below meth c H' locs' cells slots Q (F0 m 49 ls' [])) :
    ∀ (rem L : Nat) (a : mI) (H : Heap) (ls : Array Slot) (locs : List Loc), L + rem = L1 → mx_R D cy r B ((w.1.set jt (.inl (5, fs.set 4 (.int (nI L))))).set jb (.inr ((0, 800), .inl a)), w.2) H → va_S (fun q => B ≤ q) H0 H locs → lv_has ls 5 [(4, .int (nI rem - 1)), (0, .ref (B + jt)), (1, .long V)] → W p l e R s m args below meth c H locs cells slots Q (F0 m 5 ls []) := by
  intro rem
  induction rem with
  | zero =>
    intro L a H ls locs hL hR hS hl
    have hL : L = L1 := by omega
    subst hL
    refine lv_iload hx hb dX5_append_5 (lv_at hl 0 rfl) ?_
    refine lv_if_lt (tgt := 49) hx hb dX5_append_7 (by decide) (fun _ => ?_) (fun q => absurd (by decide) q)
    exact k H ls locs a (lv_sub hl [1] rfl) hR hS
  | succ rem ih =>
    intro L a H ls locs hL hR hS hl
    rw [fm_pred] at hl
    have g1 : (w.1.set jt (.inl (5, fs.set 4 (.int (nI L)))))[jt]? = some (.inl (5, fs.set 4 (.int (nI L)))) := mx_set_get hjt
    have gt : ((w.1.set jt (.inl (5, fs.set 4 (.int (nI L))))).set jb (.inr ((0, 800), .inl a)))[jt]? = some (.inl (5, fs.set 4 (.int (nI L)))) := by rw [List.getElem?_set_ne (Ne.symm hne)]; exact g1
    have gb0 : (w.1.set jt (.inl (5, fs.set 4 (.int (nI L)))))[jb]? = some c1 := by rw [List.getElem?_set_ne hne]; exact hjb
    have gb := mx_set_get (c' := (.inr ((0, 800), .inl a) : mE)) gb0
    have f0 : (fs.set 4 (.int (nI L)))[0]? = some (.ref jb) := by rw [List.getElem?_set_ne (by decide)]; exact hf
    have f4 : (fs.set 4 (.int (nI L)))[4]? = some (.int (nI L)) := by simp [hfl]
    refine lv_iload hx hb dX5_append_5 (lv_at hl 0 rfl) ?_
    refine lv_if_lt (tgt := 49) hx hb dX5_append_7 (by decide) (fun q => absurd q (nI_pos (by omega))) (fun _ => ?_)
    refine lv_aload_n hx hb dX5_append_10 rfl (lv_at hl 1 rfl) ?_
    refine mx_getf (own := RX5) (q := (RX5, TX5, 9)) (ci := 5) (k := 0) (w := ((w.1.set jt (.inl (5, fs.set 4 (.int (nI L))))).set jb (.inr ((0, 800), .inl a)), w.2)) hx hb hE hown hK hR rfl (by decide) gt f0 (mx_at_use (q := 183) (by decide +kernel) hE) dX5_append_11 ?_
    rw [mx_v_ref, hR.ref hr gb]
    refine lv_aload_n hx hb dX5_append_14 rfl (lv_at hl 1 rfl) ?_
    refine mx_getf (own := RX5) (q := (RX5, TX5, 9)) (ci := 5) (k := 4) (w := ((w.1.set jt (.inl (5, fs.set 4 (.int (nI L))))).set jb (.inr ((0, 800), .inl a)), w.2)) hx hb hE hown hK hR rfl (by decide) gt f4 (mx_at_use (q := 187) (by decide +kernel) hE) dX5_append_15 ?_
    rw [mx_v_int]
    refine lv_lload_n hx hb dX5_append_18 rfl (lv_at hl 2 rfl) ?_
    refine lv_bipush (v := 8) hx hb dX5_append_19 (by decide) ?_
    refine lv_iload hx hb dX5_append_21 (lv_at hl 0 rfl) ?_
    refine lv_imul hx hb dX5_append_23 ?_
    refine lv_lushr hx hb dX5_append_24 rfl ?_
    refine lv_l2i hx hb dX5_append_25 rfl ?_
    refine lv_sipush (v := 255) hx hb dX5_append_26 (by decide) ?_
    refine lv_iand hx hb dX5_append_29 ?_
    refine lv_topi (fun bv ebv => ?_)
    have CF : CallFix p m c cX5_append 5 s args [] RX5 := ⟨hx, hb, hml, hown, fun w hw => by cases hw⟩
    have hws : ∀ w ∈ [Cond.code yX8_set cX8_set 3 none], ∀ (a' : Array Value) (U : State), s.WarmedH U.vm → w.before a' U = true := by
      intro w hw a' U hW
      rw [List.mem_singleton.mp hw]
      exact mx_at_use (q := 347) (by decide +kernel) (mx_Env.warm hW hE)
    have hj2 := hR.ref hr gb
    have hp : PreS s H (mx_Pc D cy r B [.ref jb, .int (nI L), .int bv] ((w.1.set jt (.inl (5, fs.set 4 (.int (nI L))))).set jb (.inr ((0, 800), .inl a)), w.2)) [.ref (B + jb), .int (nI L), .int bv] := ⟨mx_blind, fun U hU hW => ⟨by show _ = [r jb, _, _].toArray; rw [hj2]; rfl, mx_Env.warm hW hE, va_K.moved hW.alike hK, by rw [hU]; exact hR⟩⟩
    have hM := fm_set (l := l) (D := D) (cy := cy) (w := ((w.1.set jt (.inl (5, fs.set 4 (.int (nI L))))).set jb (.inr ((0, 800), .inl a)), w.2)) (n := 800) (a := a) hr (v := bv) gb (i := L) (by omega) (by omega)
    simp only [List.set_set] at hM
    refine mx_run (D := D) (cy := cy) (r := r) (mc := 0) (ms := 0) (v := none) (w' := ((w.1.set jt (.inl (5, fs.set 4 (.int (nI L))))).set jb (.inr ((0, 800), .inl (mx_s a L bv))), w.2)) (rest := []) (a := ([.ref (B + jb), .int (nI L), .int bv] : List Value).toArray) (va_runSN (As := [.ref (B + jb), .int (nI L), .int bv]) (n := 3) (mc := 0) (ms := 0) (rm := { frames := 0, cells := 0, slots := 0, locals := 0 }) CF (by
      have h2 := hM
      unfold mx_Met mx_room at h2
      simp only [List.length_set, Nat.sub_self] at h2
      exact h2) ⟨⟨⟨rfl, rfl, hfr, (by show 8 + (3 + 11) + 0 ≤ R.locals; omega), hws, List.mem_singleton.mpr rfl⟩, mx_at_use (q := 347) (by decide +kernel) hE, mx_at_use (q := 145) (by decide +kernel) hE, ⟨by decide +kernel, by decide +kernel⟩, (fun sig h => by
        have h3 : (parseMethodDescriptor yX8_set.desc).map (fun d => d.parameters.length) = some 3 := by decide +kernel
        rw [h] at h3
        exact (Option.some.inj h3).symm), mx_at_use (q := 1133) (w := .methodLinkNest RX5 29 yX8_set "BoundTables") (by decide +kernel) hE⟩, mx_at_use (q := 346) (by decide +kernel) hE, trivial⟩ hp rfl rfl hl.1 rfl (lv_room (Nat.zero_le _)) dX5_append_30 ⟨by omega, by omega⟩) hS (fun H' locs' hR' hS' => ?_)
    refine lv_aload_n hx hb dX5_append_33 rfl (lv_at hl 1 rfl) ?_
    refine lv_dup hx hb dX5_append_34 rfl ?_
    have gt' : ((w.1.set jt (.inl (5, fs.set 4 (.int (nI L))))).set jb (.inr ((0, 800), .inl (mx_s a L bv))))[jt]? = some (.inl (5, fs.set 4 (.int (nI L)))) := by rw [List.getElem?_set_ne (Ne.symm hne)]; exact g1
    refine mx_getf (own := RX5) (q := (RX5, TX5, 9)) (ci := 5) (k := 4) (w := ((w.1.set jt (.inl (5, fs.set 4 (.int (nI L))))).set jb (.inr ((0, 800), .inl (mx_s a L bv))), w.2)) hx hb hE hown hK hR' rfl (by decide) gt' f4 (mx_at_use (q := 187) (by decide +kernel) hE) dX5_append_35 ?_
    rw [mx_v_int]
    refine lv_iconst (v := 1) hx hb dX5_append_38 (by decide) ?_
    refine lv_iadd hx hb dX5_append_39 ?_
    rw [nI_1]
    refine mx_put (q := (RX5, TX5, 9)) (ci := 5) (k := 4) (t := 0) (own := RX5) (w := ((w.1.set jt (.inl (5, fs.set 4 (.int (nI L))))).set jb (.inr ((0, 800), .inl (mx_s a L bv))), w.2)) (v := .int (nI (L + 1))) hx hb hE hown hK hr hR' hS' rfl (by decide) gt' (by simp [hfl]) (by
      simp only [mx_fit, Bool.and_eq_true, decide_eq_true_eq]
      exact ⟨rfl, rfl⟩) (Or.inl ⟨rfl, mx_at_use (q := 187) (by decide +kernel) hE⟩) (Or.inl rfl) dX5_append_40 (fun H2 locs2 hR2 hS2 => ?_)
    have e3 : (((w.1.set jt (.inl (5, fs.set 4 (.int (nI L))))).set jb (.inr ((0, 800), .inl (mx_s a L bv)))).set jt (.inl (5, (fs.set 4 (.int (nI L))).set 4 (.int (nI (L + 1))))) : List mE) = (w.1.set jt (.inl (5, fs.set 4 (.int (nI (L + 1)))))).set jb (.inr ((0, 800), .inl (mx_s a L bv))) := by
      rw [List.set_comm _ _ (Ne.symm hne), List.set_set, List.set_set]
    dsimp only at hR2
    rw [e3] at hR2
    refine lv_iinc (v := nI rem - 1) (lv' := [(4, .int (nI rem - 1)), (0, .ref (B + jt)), (1, .long V)]) hx hb dX5_append_43 hl (k := 0) rfl (by rw [Int32.sub_eq_add_neg]; rfl) (by decide) rfl (fun ls hl => ?_)
    refine lv_goto (tgt := 5) hx hb dX5_append_46 (by decide) ?_
    exact ih (L + 1) _ H2 ls _ (by omega) hR2 hS2 hl
/-- the reference's feed: from its loop's head to behind it -/
theorem fl_feed9 (hx : p.tables.exec = Jvm.exec) (hb : c.code = cX9_feed) (hr : mx_r r B) (hK : va_K D mx_cl (mx_tys cy) s) (hE : mx_Env s) (hown : s.vm.findClass RX9 = some m.cls) {w : mW} {jt jb : Nat} {fs : List Value} {c0 c1 : mE} {V : Int64} (hjt : w.1[jt]? = some c0) (hjb : w.1[jb]? = some c1) (hf : fs[28]? = some (.ref jb)) (hfl : fs.length = 77) (hne : jt ≠ jb) {L1 : Nat} (hL1 : L1 ≤ 800)
    (k : ∀ (H' : Heap) (ls' : Array Slot) (locs' : List Loc) (a : mI), lv_has ls' 5 [(0, .ref (B + jt))] → mx_R D cy r B ((w.1.set jt (.inl (9, fs.set 29 (.int (nI L1))))).set jb (.inr ((0, 800), .inl a)), w.2) H' → va_S (fun q => B ≤ q) H0 H' locs' → W p l e R s m args below meth c H' locs' cells slots Q (F0 m 92 ls' [])) :
    ∀ (rem L : Nat) (a : mI) (H : Heap) (ls : Array Slot) (locs : List Loc), L + rem = L1 → mx_R D cy r B ((w.1.set jt (.inl (9, fs.set 29 (.int (nI L))))).set jb (.inr ((0, 800), .inl a)), w.2) H → va_S (fun q => B ≤ q) H0 H locs → lv_has ls 5 [(4, .int (nI rem - 1)), (0, .ref (B + jt)), (1, .long V)] → W p l e R s m args below meth c H locs cells slots Q (F0 m 50 ls []) := by
  intro rem
  induction rem with
  | zero =>
    intro L a H ls locs hL hR hS hl
    have hL : L = L1 := by omega
    subst hL
    refine lv_iload hx hb dX9_feed_50 (lv_at hl 0 rfl) ?_
    refine lv_if_lt (tgt := 92) hx hb dX9_feed_52 (by decide) (fun _ => ?_) (fun q => absurd (by decide) q)
    exact k H ls locs a (lv_sub hl [1] rfl) hR hS
  | succ rem ih =>
    intro L a H ls locs hL hR hS hl
    rw [fm_pred] at hl
    have g1 : (w.1.set jt (.inl (9, fs.set 29 (.int (nI L)))))[jt]? = some (.inl (9, fs.set 29 (.int (nI L)))) := mx_set_get hjt
    have gt : ((w.1.set jt (.inl (9, fs.set 29 (.int (nI L))))).set jb (.inr ((0, 800), .inl a)))[jt]? = some (.inl (9, fs.set 29 (.int (nI L)))) := by rw [List.getElem?_set_ne (Ne.symm hne)]; exact g1
    have gb0 : (w.1.set jt (.inl (9, fs.set 29 (.int (nI L)))))[jb]? = some c1 := by rw [List.getElem?_set_ne hne]; exact hjb
    have gb := mx_set_get (c' := (.inr ((0, 800), .inl a) : mE)) gb0
    have f0 : (fs.set 29 (.int (nI L)))[28]? = some (.ref jb) := by rw [List.getElem?_set_ne (by decide)]; exact hf
    have f4 : (fs.set 29 (.int (nI L)))[29]? = some (.int (nI L)) := by simp [hfl]
    have hin : vp_in (nI L) 800 := vp_in_nI (by omega) (by omega)
    refine lv_iload hx hb dX9_feed_50 (lv_at hl 0 rfl) ?_
    refine lv_if_lt (tgt := 92) hx hb dX9_feed_52 (by decide) (fun q => absurd q (nI_pos (by omega))) (fun _ => ?_)
    refine lv_aload_n hx hb dX9_feed_55 rfl (lv_at hl 1 rfl) ?_
    refine mx_getf (own := RX9) (q := (RX9, TX9, 77)) (ci := 9) (k := 28) (w := ((w.1.set jt (.inl (9, fs.set 29 (.int (nI L))))).set jb (.inr ((0, 800), .inl a)), w.2)) hx hb hE hown hK hR rfl (by decide) gt f0 (mx_at_use (q := 1321) (by decide +kernel) hE) dX9_feed_56 ?_
    rw [mx_v_ref, hR.ref hr gb]
    refine lv_aload_n hx hb dX9_feed_59 rfl (lv_at hl 1 rfl) ?_
    refine mx_getf (own := RX9) (q := (RX9, TX9, 77)) (ci := 9) (k := 29) (w := ((w.1.set jt (.inl (9, fs.set 29 (.int (nI L))))).set jb (.inr ((0, 800), .inl a)), w.2)) hx hb hE hown hK hR rfl (by decide) gt f4 (mx_at_use (q := 1322) (by decide +kernel) hE) dX9_feed_60 ?_
    rw [mx_v_int]
    refine lv_lload_n hx hb dX9_feed_63 rfl (lv_at hl 2 rfl) ?_
    refine lv_bipush (v := 8) hx hb dX9_feed_64 (by decide) ?_
    refine lv_iload hx hb dX9_feed_66 (lv_at hl 0 rfl) ?_
    refine lv_imul hx hb dX9_feed_68 ?_
    refine lv_lshr hx hb dX9_feed_69 rfl ?_
    refine lv_l2i hx hb dX9_feed_70 rfl ?_
    refine lv_sipush (v := 255) hx hb dX9_feed_71 (by decide) ?_
    refine lv_iand hx hb dX9_feed_74 ?_
    refine lv_topi (fun bv ebv => ?_)
    refine fm_st8 hx hb hK hR gb hin dX9_feed_75 (fun H1 z1 o1 hR1 => ?_)
    rw [nI_clamp (by omega)] at hR1
    simp only [List.set_set] at hR1
    have hS1 := hS.put (k := (nI L).toNatClampNeg) z1 o1 (Nat.le_add_right B jb)
    refine lv_aload_n hx hb dX9_feed_76 rfl (lv_at hl 1 rfl) ?_
    refine lv_dup hx hb dX9_feed_77 rfl ?_
    have gt' : ((w.1.set jt (.inl (9, fs.set 29 (.int (nI L))))).set jb (.inr ((0, 800), .inl (mx_s a L bv))))[jt]? = some (.inl (9, fs.set 29 (.int (nI L)))) := by rw [List.getElem?_set_ne (Ne.symm hne)]; exact g1
    refine mx_getf (own := RX9) (q := (RX9, TX9, 77)) (ci := 9) (k := 29) (w := ((w.1.set jt (.inl (9, fs.set 29 (.int (nI L))))).set jb (.inr ((0, 800), .inl (mx_s a L bv))), w.2)) hx hb hE hown hK hR1 rfl (by decide) gt' f4 (mx_at_use (q := 1322) (by decide +kernel) hE) dX9_feed_78 ?_
    rw [mx_v_int]
    refine lv_iconst (v := 1) hx hb dX9_feed_81 (by decide) ?_
    refine lv_iadd hx hb dX9_feed_82 ?_
    rw [nI_1]
    refine mx_put (q := (RX9, TX9, 77)) (ci := 9) (k := 29) (t := 0) (own := RX9) (w := ((w.1.set jt (.inl (9, fs.set 29 (.int (nI L))))).set jb (.inr ((0, 800), .inl (mx_s a L bv))), w.2)) (v := .int (nI (L + 1))) hx hb hE hown hK hr hR1 hS1 rfl (by decide) gt' (by simp [hfl]) (by
      simp only [mx_fit, Bool.and_eq_true, decide_eq_true_eq]
      exact ⟨rfl, rfl⟩) (Or.inl ⟨rfl, mx_at_use (q := 1322) (by decide +kernel) hE⟩) (Or.inl rfl) dX9_feed_83 (fun H2 locs2 hR2 hS2 => ?_)
    have e3 : (((w.1.set jt (.inl (9, fs.set 29 (.int (nI L))))).set jb (.inr ((0, 800), .inl (mx_s a L bv)))).set jt (.inl (9, (fs.set 29 (.int (nI L))).set 29 (.int (nI (L + 1))))) : List mE) = (w.1.set jt (.inl (9, fs.set 29 (.int (nI (L + 1)))))).set jb (.inr ((0, 800), .inl (mx_s a L bv))) := by
      rw [List.set_comm _ _ (Ne.symm hne), List.set_set, List.set_set]
    dsimp only at hR2
    rw [e3] at hR2
    refine lv_iinc (v := nI rem - 1) (lv' := [(4, .int (nI rem - 1)), (0, .ref (B + jt)), (1, .long V)]) hx hb dX9_feed_86 hl (k := 0) rfl (by rw [Int32.sub_eq_add_neg]; rfl) (by decide) rfl (fun ls hl => ?_)
    refine lv_goto (tgt := 50) hx hb dX9_feed_89 (by decide) ?_
    exact ih (L + 1) _ H2 ls _ (by omega) hR2 hS2 hl
end MXF
end
section
/-! ### runs that are taken at once: java.util.Arrays.fill, the reference's clearHeads and its long loop, a copy -/
def mo_fill (a : List Value) (w : mW) : Option (Option Value × mW) := match a with
  | [.ref j, .int v] => match w.1[j]? with
    | some (.inr ((k, n), .inl _)) => if Nat.beq k 0 && Nat.ble n 1000000 then some (none, (w.1.set j (.inr ((0, n), .inl (v, []))), w.2)) else none
    | _ => none
  | _ => none
def mo_heads (a : List Value) (w : mW) : Option (Option Value × mW) := match a with
  | [.ref j1] => match w.1[j1]? with
    | some (.inl (ci, fs)) => match (fs[6]? : Option Value) with
      | some (.ref j) => match w.1[j]? with
        | some (.inr ((k, n), .inl _)) => if Nat.beq ci 9 && Nat.beq k 0 && Nat.beq n 2048 then some (none, (w.1.set j (.inr ((0, 2048), .inl (-1, []))), w.2)) else none
        | _ => none
      | _ => none
    | _ => none
  | _ => none
def mo_ovr (y : Nat) (a : List Value) (w : mW) : Option (Option Value × mW) := if Nat.beq y 192 then mo_fill a w else if Nat.beq y 120 then mo_heads a w else none
def mo_anew (σ : mS) : Option mS := if Nat.beq σ.1 105 then (match σ.2.2.1 with
    | [] => match σ.2.1.lookup 1 with
      | some (.int i) => match σ.2.1.lookup 0 with
        | some (.ref j1) => match σ.2.2.2.1[j1]? with
          | some (.inl (ci, fs)) => match (fs[39]? : Option Value) with
            | some (.ref j) => match (fs[40]? : Option Value) with
              | some (.ref g) => match σ.2.2.2.1[j]? with
                | some (.inr ((k, n), .inl _)) => match σ.2.2.2.1[g]? with
                  | some (.inr ((k2, n2), .inl _)) => if decide (i = 0) && Nat.beq ci 9 && Nat.beq k 0 && Nat.beq n 6400 && Nat.beq k2 2 && Nat.beq n2 6400 && decide (j ≠ g) then some (132, [(1, .int 6400), (0, .ref j1)], [], ((σ.2.2.2.1.set j (.inr ((0, 6400), .inl (0, [])))).set g (.inr ((2, 6400), .inl (0, []))), σ.2.2.2.2)) else none
                  | _ => none
                | _ => none
              | _ => none
            | _ => none
          | _ => none
        | _ => none
      | _ => none
    | _ => none) else none
def mo_copy (σ : mS) : Option mS := if Nat.beq σ.1 15 then (match σ.2.2.1 with
    | [.int n, .int dp, .ref g, .int sp, .ref j] => match σ.2.2.2.1[j]? with
      | some (.inr ((k, n1), .inl a)) => match σ.2.2.2.1[g]? with
        | some (.inr ((k2, n2), .inl _)) => if decide (sp = 0) && decide (dp = 0) && Nat.beq k 0 && Nat.beq k2 0 && Nat.beq n1 n2 && Nat.ble n1 1000000 && decide (n = Int32.ofNat n1) then some (18, σ.2.1, [], (σ.2.2.2.1.set g (.inr ((0, n2), .inl a)), σ.2.2.2.2)) else none
        | _ => none
      | _ => none
    | _ => none) else none
def mo_append (σ : mS) : Option mS := if Nat.beq σ.1 5 then (match σ.2.2.1 with
    | [] => match σ.2.1.lookup 4 with
      | some (.int i) => match σ.2.1.lookup 0 with
        | some (.ref jt) => match σ.2.1.lookup 1 with
          | some v => match σ.2.2.2.1[jt]? with
            | some (.inl (ci, fs)) => match (fs[0]? : Option Value) with
              | some (.ref jb) => match (fs[4]? : Option Value) with
                | some (.int x) => match σ.2.2.2.1[jb]? with
                  | some (.inr ((k, n), .inl _)) => if mx_isL v && Nat.beq ci 5 && Nat.beq k 0 && Nat.beq n 800 && Nat.beq fs.length 9 && decide (¬ i < 0) && decide (¬ x < 0) && Nat.ble (x.toNatClampNeg + (i.toNatClampNeg + 1)) 800 then some (49, [(0, .ref jt)], [], ((σ.2.2.2.1.set jt (.inl (5, fs.set 4 (.int (nI (x.toNatClampNeg + (i.toNatClampNeg + 1))))))).set jb (.inr ((9, 800), .inl (0, []))), σ.2.2.2.2)) else none
                  | _ => none
                | _ => none
              | _ => none
            | _ => none
          | _ => none
        | _ => none
      | _ => none
    | _ => none) else none
def mo_feed9 (σ : mS) : Option mS := if Nat.beq σ.1 50 then (match σ.2.2.1 with
    | [] => match σ.2.1.lookup 4 with
      | some (.int i) => match σ.2.1.lookup 0 with
        | some (.ref jt) => match σ.2.1.lookup 1 with
          | some v => match σ.2.2.2.1[jt]? with
            | some (.inl (ci, fs)) => match (fs[28]? : Option Value) with
              | some (.ref jb) => match (fs[29]? : Option Value) with
                | some (.int x) => match σ.2.2.2.1[jb]? with
                  | some (.inr ((k, n), .inl _)) => if mx_isL v && Nat.beq ci 9 && Nat.beq k 0 && Nat.beq n 800 && Nat.beq fs.length 77 && decide (¬ i < 0) && decide (¬ x < 0) && Nat.ble (x.toNatClampNeg + (i.toNatClampNeg + 1)) 800 then some (92, [(0, .ref jt)], [], ((σ.2.2.2.1.set jt (.inl (9, fs.set 29 (.int (nI (x.toNatClampNeg + (i.toNatClampNeg + 1))))))).set jb (.inr ((9, 800), .inl (0, []))), σ.2.2.2.2)) else none
                  | _ => none
                | _ => none
              | _ => none
            | _ => none
          | _ => none
        | _ => none
      | _ => none
    | _ => none) else none
def mo_jmp (y : Nat) (σ : mS) : Option mS := if Nat.beq y 118 then mo_anew σ else if Nat.beq y 92 then mo_copy σ else if Nat.beq y 71 then mo_append σ else if Nat.beq y 180 then mo_feed9 σ else none
section MX8
variable {l : Launch} {r : Nat → Value} {B : Nat} {D : va_G} {cy : Nat → ClassId}
theorem mo_fill_met (hr : mx_r r B) {d : Nat} {As : List Value} {w : mW} {v : Option Value} {w' : mW} (h : mo_fill As w = some (v, w')) : mx_Met l D cy r B mt_J7_fill_53178 (d + 1) As w v w' := by
  unfold mo_fill at h
  split at h
  · rename_i j x
    split at h
    · rename_i k n a hj
      split at h
      · rename_i hc
        simp only [Bool.and_eq_true] at hc
        cases h
        have hk0 : k = 0 := Nat.eq_of_beq_eq_true hc.1
        subst hk0
        have hn := Nat.le_of_ble_eq_true hc.2
        unfold mx_Met
        refine Met.ofW (cc := cJ7_fill_53178) (maxL := 4) (ret := none) (ws' := []) (by decide +kernel) rfl ?_
        intro p e s m args below meth c s₁ Bd hml hv
        obtain ⟨rfl, hE, hK, hR⟩ := hv
        have hx := Bd.exec
        have hb := Bd.bytes
        have hj' := hR.ref hr hj
        simp only [List.length_set, Nat.sub_self]
        have hl := lv_entry (([.ref j, .int x] : List Value).map (mx_v r)) (n := 4) (by rw [mx_sl hr]; simp [Value.category])
        rw [mx_args hr] at hl
        rw [lg_entry_eq]
        generalize (lg_sl (([.ref j, .int x] : List Value).map (mx_v r)) ++ List.replicate (4 - (lg_sl (([.ref j, .int x] : List Value).map (mx_v r))).length) Slot.unset).toArray = ls at hl ⊢
        have hl : lv_has ls 4 [(0, .ref (B + j)), (1, .int x)] := by
          have e1 : mx_lv r (lv_args 0 [.ref j, .int x]) = [(0, .ref (B + j)), (1, .int x)] := by
            show [(0, r j), (1, Value.int x)] = _
            rw [hj']
          rw [e1] at hl
          exact hl
        refine lv_iconst (v := 0) hx hb dJ7_fill_53178_0 (by decide) ?_
        refine lv_istore_n (lv' := [(2, .int 0), (0, .ref (B + j)), (1, .int x)]) hx hb dJ7_fill_53178_1 rfl hl (by decide) rfl (fun ls hl => ?_)
        refine lv_aload_n hx hb dJ7_fill_53178_2 rfl (lv_at hl 1 rfl) ?_
        refine va_alen (v := nI n) hx hb hK (hR.P hj rfl) 0 0 rfl rfl rfl dJ7_fill_53178_3 ?_
        refine lv_istore_n (lv' := [(3, .int (nI n)), (2, .int 0), (0, .ref (B + j)), (1, .int x)]) hx hb dJ7_fill_53178_4 rfl hl (by decide) rfl (fun ls hl => ?_)
        have hR0 : mx_R D cy r B (w.1.set j (.inr ((0, n), .inl a)), w.2) s.heap := by
          have e2 : w.1.set j (.inr ((0, n), .inl a)) = w.1 := by
            apply List.ext_getElem?
            intro i
            by_cases hi : i = j
            · subst hi; rw [mx_set_get hj, hj]
            · rw [List.getElem?_set_ne (Ne.symm hi)]
          rw [e2]; exact hR
        refine fl_fill hx hb hr hK (by omega) hj (fun H' ls' locs' hR' hS' => ?_) n 0 a s.heap ls [] (by omega) (fun q hq => by omega) hR0 va_S.rf (lv_sub hl [1, 0, 2, 3] rfl)
        exact W.vret hx hb Bd.returns (fun t ht hW => ⟨rfl, by rw [ht]; exact hR', hS'.F ht⟩) hS'.2.2 dJ7_fill_53178_20
      · cases h
    · cases h
  · cases h
theorem mo_heads_met (hr : mx_r r B) {d : Nat} {As : List Value} {w : mW} {v : Option Value} {w' : mW} (h : mo_heads As w = some (v, w')) : mx_Met l D cy r B mt_X9_clearHeads (d + 1) As w v w' := by
  unfold mo_heads at h
  split at h
  · rename_i j1
    split at h
    · rename_i ci fs hj1
      split at h
      · rename_i j hf
        split at h
        · rename_i k n a hj
          split at h
          · rename_i hc
            simp only [Bool.and_eq_true] at hc
            cases h
            have hk0 : k = 0 := Nat.eq_of_beq_eq_true hc.1.2
            have hn : n = 2048 := Nat.eq_of_beq_eq_true hc.2
            have hci : ci = 9 := Nat.eq_of_beq_eq_true hc.1.1
            subst hk0 hn hci
            have hne : j ≠ j1 := fun q => by subst q; rw [hj] at hj1; cases hj1
            unfold mx_Met
            refine Met.ofW (cc := cX9_clearHeads) (maxL := 2) (ret := none) (ws' := []) (by decide +kernel) rfl ?_
            intro p e s m args below meth c s₁ Bd hml hv
            obtain ⟨rfl, hE, hK, hR⟩ := hv
            have hx := Bd.exec
            have hb := Bd.bytes
            have hown : s.vm.findClass RX9 = some m.cls := findClass_of_methodNamed Bd.named
            have hj' := hR.ref hr hj1
            simp only [List.length_set, Nat.sub_self]
            have hl := lv_entry (([.ref j1] : List Value).map (mx_v r)) (n := 2) (by rw [mx_sl hr]; simp [Value.category])
            rw [mx_args hr] at hl
            rw [lg_entry_eq]
            generalize (lg_sl (([.ref j1] : List Value).map (mx_v r)) ++ List.replicate (2 - (lg_sl (([.ref j1] : List Value).map (mx_v r))).length) Slot.unset).toArray = ls at hl ⊢
            have hl : lv_has ls 2 [(0, .ref (B + j1))] := by
              have e1 : mx_lv r (lv_args 0 [.ref j1]) = [(0, .ref (B + j1))] := by
                show [(0, r j1)] = _
                rw [hj']
              rw [e1] at hl
              exact hl
            refine lv_iconst (v := 0) hx hb dX9_clearHeads_0 (by decide) ?_
            refine lv_istore_n (lv' := [(1, .int 0), (0, .ref (B + j1))]) hx hb dX9_clearHeads_1 rfl hl (by decide) rfl (fun ls hl => ?_)
            have hR0 : mx_R D cy r B (w.1.set j (.inr ((0, 2048), .inl a)), w.2) s.heap := by
              have e2 : w.1.set j (.inr ((0, 2048), .inl a)) = w.1 := by
                apply List.ext_getElem?
                intro i
                by_cases hi : i = j
                · subst hi; rw [mx_set_get hj, hj]
                · rw [List.getElem?_set_ne (Ne.symm hi)]
              rw [e2]; exact hR
            refine fl_heads hx hb hr hK hE hown (n := 2048) rfl hj hj1 hf hne (fun H' ls' locs' hR' hS' => ?_) 2048 0 a s.heap ls [] (by omega) (fun q hq => by omega) hR0 va_S.rf hl
            exact W.vret hx hb Bd.returns (fun t ht hW => ⟨rfl, by rw [ht]; exact hR', hS'.F ht⟩) hS'.2.2 dX9_clearHeads_22
          · cases h
        · cases h
      · cases h
    · cases h
  · cases h
theorem mo_ovr_met (hr : mx_r r B) : ∀ d a As w v w', mo_ovr a As w = some (v, w') → ∀ M, mt_tab[a]? = some M → mx_Met l D cy r B M (d + 1) As w v w' := by
  intro d a As w v w' h M hM
  unfold mo_ovr at h
  split at h
  · rename_i ha
    have ha := Nat.eq_of_beq_eq_true ha
    subst ha
    cases (show some mt_J7_fill_53178 = some M from hM)
    exact mo_fill_met hr h
  · split at h
    · rename_i ha
      have ha := Nat.eq_of_beq_eq_true ha
      subst ha
      cases (show some mt_X9_clearHeads = some M from hM)
      exact mo_heads_met hr h
    · cases h
variable {p : Program} {e : Env} {R : Room} {s : State} {m : MethodId} {args : Array Value} {below : List Frame} {meth : Method} {c : Code} {H0 : Heap}
theorem mo_anew_jmp {kb : mK} {sc : Option Nat} {d : Nat} (X : mx_X kb p R s m meth c D cy r B mt_X9_anew sc H0 d) : mx_Jmp p l e R s m args below meth c D cy r B H0 2 mo_anew := by
  obtain ⟨hx, hb, hml, hown, hE, hK, hr, hsc, hnm, hfr, hlo, hkb⟩ := X
  intro σ σ' h
  obtain ⟨pc, lv, st, w⟩ := σ
  unfold mo_anew at h
  dsimp only at h
  split at h
  · rename_i hpc
    have hpc := Nat.eq_of_beq_eq_true hpc
    subst hpc
    split at h
    · split at h
      · rename_i i hi
        split at h
        · rename_i j1 h0
          split at h
          · rename_i ci fs hj1
            split at h
            · rename_i j hf
              split at h
              · rename_i g hf2
                split at h
                · rename_i k n a hj
                  split at h
                  · rename_i k2 n2 b hg
                    split at h
                    · rename_i hc
                      simp only [Bool.and_eq_true, decide_eq_true_eq] at hc
                      cases h
                      obtain ⟨⟨⟨⟨⟨⟨c1, c2⟩, c3⟩, c4⟩, c5⟩, c6⟩, c7⟩ := hc
                      have c2 : ci = 9 := Nat.eq_of_beq_eq_true c2
                      have c3 : k = 0 := Nat.eq_of_beq_eq_true c3
                      have c4 : n = 6400 := Nat.eq_of_beq_eq_true c4
                      have c5 : k2 = 2 := Nat.eq_of_beq_eq_true c5
                      have c6 : n2 = 6400 := Nat.eq_of_beq_eq_true c6
                      subst c1 c2 c3 c4 c5 c6
                      refine ⟨⟨by simp, Nat.le_refl _⟩, ?_⟩
                      intro Q n0 z0 k0 k1 H ls locs hl hR hS hn0 hz0 hrc hrs kk
                      have hj' := hR.ref hr hj1
                      have a1 := mx_lv_at hl hi
                      have a0 := mx_lv_at hl h0
                      rw [mx_v_ref, hj'] at a0
                      have hl2 : lv_has ls 2 [(1, .int (nI 0)), (0, .ref (B + j1))] := ⟨hl.1, hl.2.1, fun q hq => by
                        rcases List.mem_cons.mp hq with rfl | hq
                        · exact a1
                        · rw [List.mem_singleton.mp hq]; exact a0⟩
                      have hne : j ≠ j1 := fun q => by subst q; rw [hj] at hj1; cases hj1
                      have hne2 : g ≠ j1 := fun q => by subst q; rw [hg] at hj1; cases hj1
                      have hR0 : mx_R D cy r B ((w.1.set j (.inr ((0, 6400), .inl a))).set g (.inr ((2, 6400), .inl b)), w.2) H := by
                        have e2 : (w.1.set j (.inr ((0, 6400), .inl a))).set g (.inr ((2, 6400), .inl b)) = w.1 := by
                          apply List.ext_getElem?
                          intro i
                          by_cases hi : i = g
                          · subst hi
                            rw [hg]
                            exact mx_set_get (c := (.inr ((2, 6400), .inl b) : mE)) (by rw [List.getElem?_set_ne c7]; exact hg)
                          · rw [List.getElem?_set_ne (Ne.symm hi)]
                            by_cases hi2 : i = j
                            · subst hi2; rw [mx_set_get hj, hj]
                            · rw [List.getElem?_set_ne (Ne.symm hi2)]
                        rw [e2]; exact hR
                      refine fl_anew hx hb hr hK hE hown (n := 6400) rfl hj hg hj1 hf hf2 hne hne2 c7 (fun H' ls' locs' hl' hR' hS' => ?_) 6400 0 a b H ls locs (by omega) (fun q hq => by omega) (fun q hq => by omega) hR0 hS hl2
                      have k2 := kk ls' H' locs' (by
                        show lv_has ls' 2 [(1, .int 6400), (0, r j1)]
                        rw [hj']; exact hl') hR' hS'
                      simp only [List.length_set] at k2
                      exact k2
                    · cases h
                  · cases h
                · cases h
              · cases h
            · cases h
          · cases h
        · cases h
      · cases h
    · cases h
  · cases h
theorem mo_copy_jmp {kb : mK} {sc : Option Nat} {d : Nat} (X : mx_X kb p R s m meth c D cy r B mt_X7_closeReach sc H0 d) : mx_Jmp p l e R s m args below meth c D cy r B H0 4 mo_copy := by
  obtain ⟨hx, hb, hml, hown, hE, hK, hr, hsc, hnm, hfr, hlo, hkb⟩ := X
  intro σ σ' h
  obtain ⟨pc, lv, st, w⟩ := σ
  unfold mo_copy at h
  dsimp only at h
  split at h
  · rename_i hpc
    have hpc := Nat.eq_of_beq_eq_true hpc
    subst hpc
    split at h
    · rename_i n dp g sp j
      split at h
      · rename_i k n1 a hj
        split at h
        · rename_i k2 n2 b hg
          split at h
          · rename_i hc
            simp only [Bool.and_eq_true, decide_eq_true_eq] at hc
            cases h
            obtain ⟨⟨⟨⟨⟨⟨c1, c2⟩, c3⟩, c4⟩, c5⟩, c6⟩, c7⟩ := hc
            have c3 : k = 0 := Nat.eq_of_beq_eq_true c3
            have c4 : k2 = 0 := Nat.eq_of_beq_eq_true c4
            have c5 : n1 = n2 := Nat.eq_of_beq_eq_true c5
            have c6 := Nat.le_of_ble_eq_true c6
            subst c1 c2 c3 c4 c5
            refine ⟨⟨by simp, Nat.le_refl _⟩, ?_⟩
            intro Q n0 z0 k0 k1 H ls locs hl hR hS hn0 hz0 hrc hrs kk
            intro T hT XX
            have hc0 : H[B + j]? = some (vp_cell (cy 0) (n1, .inl (mx_g a))) := hR.2.2 _ _ hj rfl
            have hc1 : H[B + g]? = some (vp_cell (cy 0) (n1, .inl (mx_g b))) := hR.2.2 _ _ hg rfl
            obtain ⟨-, k0, hk0, cm0, hkk0⟩ := (hK.2 0 _ rfl).1 n1 (fun q => .int (mx_g a q))
            obtain ⟨-, k1, hk1, cm1, hkk1⟩ := (hK.2 0 _ rfl).1 n1 (fun q => .int (mx_g b q))
            have hcl : n.toNatClampNeg = n1 := by rw [c7]; exact nI_clamp (by omega)
            have hti : n.toInt = (n1 : Int) := by rw [c7]; exact nI_toInt (by omega)
            have z0c : (0 : Int32).toNatClampNeg = 0 := by decide
            have hnw : nativeFrameWords "java/lang/System" "arraycopy" 5 + 11 ≤ 40 := by decide +kernel
            obtain ⟨vm', X', step⟩ := XX.arraycopy hx hown (mx_at_use (q := 918) (w := .methodLink RX7 85 arraycopyName) (by decide +kernel) hE) (mx_at_use (q := 344) (by decide +kernel) hE) (mx_at_use (q := 343) (by decide +kernel) hE) (mx_at_use (q := 153) (by decide +kernel) hE) (src := B + j) (dst := B + g) (cs := vp_cell (cy 0) (n1, .inl (mx_g a))) (cd := vp_cell (cy 0) (n1, .inl (mx_g b))) (srcPos := 0) (destPos := 0) (n := n) (by rw [hT]; exact hc0) (by rw [hT]; exact hc1)
              (fun _ h => by cases h) (fun _ h => by cases h) (fun h => by cases h) (fun h => by cases h) hk0 hk1 hkk0 hkk1 (by show (refKind FieldType.int != refKind FieldType.int || !refKind FieldType.int && FieldType.int != FieldType.int) = false; decide) (by decide) (by decide) (by rw [c7]; exact nI_pos (by omega))
              (by rw [hti]; show ¬ _ > ((arrV (cy 0) n1 (fun q => .int (mx_g a q))).slots.size : Int); rw [arrV_size]; show ¬ ((0 : Int32).toInt + (n1 : Int) > (n1 : Int)); rw [show (0 : Int32).toInt = 0 from by decide]; omega)
              (by rw [hti]; show ¬ _ > ((arrV (cy 0) n1 (fun q => .int (mx_g b q))).slots.size : Int); rw [arrV_size]; show ¬ ((0 : Int32).toInt + (n1 : Int) > (n1 : Int)); rw [show (0 : Int32).toInt = 0 from by decide]; omega)
              (fun vm₁ _ i hi => by
                have e : (vp_cell (cy 0) (n1, .inl (mx_g a))).slots.getD ((0 : Int32).toNatClampNeg + i) .null = .int (mx_g a ((0 : Int32).toNatClampNeg + i)) := by
                  show (arrV (cy 0) n1 (fun q => .int (mx_g a q))).slots.getD _ _ = _
                  rw [Array.getD_eq_getD_getElem?, arrV_read _ _ (by rw [z0c]; omega)]
                  rfl
                refine ⟨?_, ?_⟩
                · rw [e]; rfl
                · rw [e]; exact trivial)
              (g := F0 m 15 ls (([.int n, .int 0, .ref g, .int 0, .ref j] : List Value).map (mx_v r))) rfl (by rw [hml]; exact hl.1) (rest := []) (by show [Value.int n, .int 0, r g, .int 0, r j] = _; rw [hR.ref hr hj, hR.ref hr hg]) (by rw [hb]; exact dX7_closeReach_15) (by omega) (by show 2 * 0 + 0 + (nativeFrameWords "java/lang/System" "arraycopy" 5 + 11) ≤ _; omega)
            have e1 : copied (vp_cell (cy 0) (n1, .inl (mx_g a))) (vp_cell (cy 0) (n1, .inl (mx_g b))) 0 0 n = vp_cell (cy 0) (n1, .inl (va_cpy (mx_g a) (mx_g b) (0 : Int32).toNatClampNeg (0 : Int32).toNatClampNeg n.toNatClampNeg)) := va_copied (fun z => .int z) (cy 0) (cy 0) (mx_g a) (mx_g b) (by rw [z0c, hcl]; omega)
            have e2 : vp_cell (cy 0) (n1, .inl (va_cpy (mx_g a) (mx_g b) (0 : Int32).toNatClampNeg (0 : Int32).toNatClampNeg n.toNatClampNeg)) = vp_cell (cy 0) (n1, .inl (mx_g a)) := by
              rw [vp_cell_i, vp_cell_i]
              unfold arrV
              congr 2
              funext q
              simp [va_cpy, z0c, hcl, q.isLt]
            rw [e1, e2] at X' step
            have hl1 : B + g < H.size := (Array.getElem?_eq_some_iff.mp hc1).1
            have hheap : ((T.setVm vm').setCell (B + g) (vp_cell (cy 0) (n1, .inl (mx_g a)))).heap = H.setIfInBounds (B + g) (vp_cell (cy 0) (n1, .inl (mx_g a))) := by rw [← hT]; rfl
            have oq : ∀ q : Nat, q ≠ B + g → (H.setIfInBounds (B + g) (vp_cell (cy 0) (n1, .inl (mx_g a))))[q]? = H[q]? := fun q hq => by simp [Array.getElem?_setIfInBounds, Ne.symm hq]
            simp only [List.length_set] at kk
            obtain ⟨t, a1, b1⟩ := kk ls _ _ hl (hR.set hg (by simp) oq (c' := .inr ((0, n1), .inl a)) (show (H.setIfInBounds (B + g) _)[B + g]? = some _ by simp [Array.getElem?_setIfInBounds, hl1])) ⟨by simp; exact hS.1, fun q g1 g2 => by
                rw [oq q (fun e => g2 (by rw [e]; exact Nat.le_add_right B g))]
                exact hS.2.1 q g1 g2, fun q hq => by
                rcases List.mem_append.mp hq with h | h
                · exact hS.2.2 q h
                · obtain ⟨z, -, hz⟩ := List.mem_map.mp h
                  rw [← hz]
                  exact Nat.le_add_right B g⟩ _ hheap X'
            exact ⟨t, step t a1, b1⟩
          · cases h
        · cases h
      · cases h
    · cases h
  · cases h
theorem mo_append_jmp {kb : mK} {sc : Option Nat} {d : Nat} (X : mx_X kb p R s m meth c D cy r B mt_X5_append sc H0 d) : mx_Jmp p l e R s m args below meth c D cy r B H0 5 mo_append := by
  obtain ⟨hx, hb, hml, hown, hE, hK, hr, hsc, hnm, hfr, hlo, hkb⟩ := X
  intro σ σ' h
  obtain ⟨pc, lv, st, w⟩ := σ
  unfold mo_append at h
  dsimp only at h
  split at h
  · rename_i hpc
    have hpc := Nat.eq_of_beq_eq_true hpc
    subst hpc
    split at h
    · split at h
      · rename_i i hi
        split at h
        · rename_i jt h0
          split at h
          · rename_i v hv
            split at h
            · rename_i ci fs hjt
              split at h
              · rename_i jb hf
                split at h
                · rename_i x hf4
                  split at h
                  · rename_i k n a hjb
                    split at h
                    · rename_i hc
                      simp only [Bool.and_eq_true, decide_eq_true_eq] at hc
                      cases h
                      obtain ⟨⟨⟨⟨⟨⟨⟨c1, c2⟩, c3⟩, c4⟩, c5⟩, c6⟩, c7⟩, c8⟩ := hc
                      have c2 : ci = 5 := Nat.eq_of_beq_eq_true c2
                      have c3 : k = 0 := Nat.eq_of_beq_eq_true c3
                      have c4 : n = 800 := Nat.eq_of_beq_eq_true c4
                      have c5 : fs.length = 9 := Nat.eq_of_beq_eq_true c5
                      have c8 := Nat.le_of_ble_eq_true c8
                      subst c2 c3 c4
                      refine ⟨⟨by simp, Nat.le_refl _⟩, ?_⟩
                      intro Q n0 z0 k0 k1 H ls locs hl hR hS hn0 hz0 hrc hrs kk
                      simp only [List.length_set] at hrc kk
                      obtain ⟨i2, hi2, ei⟩ := nI_of c6
                      obtain ⟨x2, hx2, ex⟩ := nI_of c7
                      have ci2 : i.toNatClampNeg = i2 := by rw [ei]; exact nI_clamp hi2
                      have cx2 : x.toNatClampNeg = x2 := by rw [ex]; exact nI_clamp hx2
                      have hj' := hR.ref hr hjt
                      obtain ⟨V, hV⟩ := mx_isL_spec (r := r) c1
                      have a4 := mx_lv_at hl hi
                      have a1 := mx_lv_at hl hv
                      have a0 := mx_lv_at hl h0
                      rw [mx_v_ref, hj'] at a0
                      rw [hV] at a1
                      have hl2 : lv_has ls 5 [(4, .int (nI (i2 + 1) - 1)), (0, .ref (B + jt)), (1, .long V)] := ⟨hl.1, hl.2.1, fun q hq => by
                        rcases List.mem_cons.mp hq with rfl | hq
                        · rw [fm_pred, ← ei]; exact a4
                        · rcases List.mem_cons.mp hq with rfl | hq
                          · exact a0
                          · rw [List.mem_singleton.mp hq]; exact a1⟩
                      have hne : jt ≠ jb := fun q => by subst q; rw [hjb] at hjt; cases hjt
                      have hfs : fs.set 4 (.int (nI x2)) = fs := by
                        rw [← ex]
                        apply List.ext_getElem?
                        intro q
                        by_cases hq : q = 4
                        · subst hq
                          rw [hf4]
                          simp [c5]
                        · rw [List.getElem?_set_ne (Ne.symm hq)]
                      have hR0 : mx_R D cy r B ((w.1.set jt (.inl (5, fs.set 4 (.int (nI x2))))).set jb (.inr ((0, 800), .inl a)), w.2) H := by
                        have e2 : (w.1.set jt (.inl (5, fs.set 4 (.int (nI x2))))).set jb (.inr ((0, 800), .inl a)) = w.1 := by
                          rw [hfs]
                          apply List.ext_getElem?
                          intro q
                          by_cases hq : q = jb
                          · subst hq
                            rw [hjb]
                            exact mx_set_get (c := (.inr ((0, 800), .inl a) : mE)) (by rw [List.getElem?_set_ne hne]; exact hjb)
                          · rw [List.getElem?_set_ne (Ne.symm hq)]
                            by_cases hq2 : q = jt
                            · subst hq2; rw [mx_set_get hjt, hjt]
                            · rw [List.getElem?_set_ne (Ne.symm hq2)]
                        rw [e2]; exact hR
                      refine fl_append hx hb hml hr hK hE hown (by omega) (by omega) ⟨by omega, by omega⟩ hjt hjb hf c5 hne (L1 := x2 + (i2 + 1)) (by omega) (fun H' ls' locs' a' hl' hR' hS' => ?_) (i2 + 1) x2 a H ls locs rfl hR0 hS hl2
                      have hR2 := hR'.dead (j := jb) (c' := .inr ((9, 800), .inl (0, []))) rfl
                      simp only [List.set_set] at hR2
                      rw [cx2, ci2] at kk
                      exact kk ls' H' locs' (by
                        show lv_has ls' 5 [(0, r jt)]
                        rw [hj']; exact hl') hR2 hS'
                    · cases h
                  · cases h
                · cases h
              · cases h
            · cases h
          · cases h
        · cases h
      · cases h
    · cases h
  · cases h
theorem mo_feed9_jmp {kb : mK} {sc : Option Nat} {d : Nat} (X : mx_X kb p R s m meth c D cy r B mt_X9_feed sc H0 d) : mx_Jmp p l e R s m args below meth c D cy r B H0 5 mo_feed9 := by
  obtain ⟨hx, hb, hml, hown, hE, hK, hr, hsc, hnm, hfr, hlo, hkb⟩ := X
  intro σ σ' h
  obtain ⟨pc, lv, st, w⟩ := σ
  unfold mo_feed9 at h
  dsimp only at h
  split at h
  · rename_i hpc
    have hpc := Nat.eq_of_beq_eq_true hpc
    subst hpc
    split at h
    · split at h
      · rename_i i hi
        split at h
        · rename_i jt h0
          split at h
          · rename_i v hv
            split at h
            · rename_i ci fs hjt
              split at h
              · rename_i jb hf
                split at h
                · rename_i x hf4
                  split at h
                  · rename_i k n a hjb
                    split at h
                    · rename_i hc
                      simp only [Bool.and_eq_true, decide_eq_true_eq] at hc
                      cases h
                      obtain ⟨⟨⟨⟨⟨⟨⟨c1, c2⟩, c3⟩, c4⟩, c5⟩, c6⟩, c7⟩, c8⟩ := hc
                      have c2 : ci = 9 := Nat.eq_of_beq_eq_true c2
                      have c3 : k = 0 := Nat.eq_of_beq_eq_true c3
                      have c4 : n = 800 := Nat.eq_of_beq_eq_true c4
                      have c5 : fs.length = 77 := Nat.eq_of_beq_eq_true c5
                      have c8 := Nat.le_of_ble_eq_true c8
                      subst c2 c3 c4
                      refine ⟨⟨by simp, Nat.le_refl _⟩, ?_⟩
                      intro Q n0 z0 k0 k1 H ls locs hl hR hS hn0 hz0 hrc hrs kk
                      simp only [List.length_set] at hrc kk
                      obtain ⟨i2, hi2, ei⟩ := nI_of c6
                      obtain ⟨x2, hx2, ex⟩ := nI_of c7
                      have ci2 : i.toNatClampNeg = i2 := by rw [ei]; exact nI_clamp hi2
                      have cx2 : x.toNatClampNeg = x2 := by rw [ex]; exact nI_clamp hx2
                      have hj' := hR.ref hr hjt
                      obtain ⟨V, hV⟩ := mx_isL_spec (r := r) c1
                      have a4 := mx_lv_at hl hi
                      have a1 := mx_lv_at hl hv
                      have a0 := mx_lv_at hl h0
                      rw [mx_v_ref, hj'] at a0
                      rw [hV] at a1
                      have hl2 : lv_has ls 5 [(4, .int (nI (i2 + 1) - 1)), (0, .ref (B + jt)), (1, .long V)] := ⟨hl.1, hl.2.1, fun q hq => by
                        rcases List.mem_cons.mp hq with rfl | hq
                        · rw [fm_pred, ← ei]; exact a4
                        · rcases List.mem_cons.mp hq with rfl | hq
                          · exact a0
                          · rw [List.mem_singleton.mp hq]; exact a1⟩
                      have hne : jt ≠ jb := fun q => by subst q; rw [hjb] at hjt; cases hjt
                      have hfs : fs.set 29 (.int (nI x2)) = fs := by
                        rw [← ex]
                        apply List.ext_getElem?
                        intro q
                        by_cases hq : q = 29
                        · subst hq
                          rw [hf4]
                          simp [c5]
                        · rw [List.getElem?_set_ne (Ne.symm hq)]
                      have hR0 : mx_R D cy r B ((w.1.set jt (.inl (9, fs.set 29 (.int (nI x2))))).set jb (.inr ((0, 800), .inl a)), w.2) H := by
                        have e2 : (w.1.set jt (.inl (9, fs.set 29 (.int (nI x2))))).set jb (.inr ((0, 800), .inl a)) = w.1 := by
                          rw [hfs]
                          apply List.ext_getElem?
                          intro q
                          by_cases hq : q = jb
                          · subst hq
                            rw [hjb]
                            exact mx_set_get (c := (.inr ((0, 800), .inl a) : mE)) (by rw [List.getElem?_set_ne hne]; exact hjb)
                          · rw [List.getElem?_set_ne (Ne.symm hq)]
                            by_cases hq2 : q = jt
                            · subst hq2; rw [mx_set_get hjt, hjt]
                            · rw [List.getElem?_set_ne (Ne.symm hq2)]
                        rw [e2]; exact hR
                      refine fl_feed9 hx hb hr hK hE hown hjt hjb hf c5 hne (L1 := x2 + (i2 + 1)) (by omega) (fun H' ls' locs' a' hl' hR' hS' => ?_) (i2 + 1) x2 a H ls locs rfl hR0 hS hl2
                      have hR2 := hR'.dead (j := jb) (c' := .inr ((9, 800), .inl (0, []))) rfl
                      simp only [List.set_set] at hR2
                      rw [cx2, ci2] at kk
                      exact kk ls' H' locs' (by
                        show lv_has ls' 5 [(0, r jt)]
                        rw [hj']; exact hl') hR2 hS'
                    · cases h
                  · cases h
                · cases h
              · cases h
            · cases h
          · cases h
        · cases h
      · cases h
    · cases h
  · cases h
theorem mo_jmps {kb : mK} : ∀ y M, mt_tab[y]? = some M → ∀ (p : Program) (e : Env) (R : Room) (s : State) (m : MethodId) (args : Array Value) (below : List Frame) (meth : Method) (c : Code) (d : Nat), mx_X kb p R s m meth c D cy r B M none s.heap d → mx_Jmp p l e R s m args below meth c D cy r B s.heap M.2.2.1.1 (mo_jmp y) := by
  intro y M hM p e R s m args below meth c d X σ σ' h
  unfold mo_jmp at h
  split at h
  · rename_i hy
    have hy := Nat.eq_of_beq_eq_true hy
    subst hy
    cases (show some mt_X9_anew = some M from hM)
    exact mo_anew_jmp X σ σ' h
  · split at h
    · rename_i hy
      have hy := Nat.eq_of_beq_eq_true hy
      subst hy
      cases (show some mt_X7_closeReach = some M from hM)
      exact mo_copy_jmp X σ σ' h
    · split at h
      · rename_i hy
        have hy := Nat.eq_of_beq_eq_true hy
        subst hy
        cases (show some mt_X5_append = some M from hM)
        exact mo_append_jmp X σ σ' h
      · split at h
        · rename_i hy
          have hy := Nat.eq_of_beq_eq_true hy
          subst hy
          cases (show some mt_X9_feed = some M from hM)
          exact mo_feed9_jmp X σ σ' h
        · cases h
/-- every run is a contract -/
theorem mo_met {kb : mK} (hr : mx_r r B) (hkb : mx_kb kb r) : ∀ (d a : Nat) (As : List Value) (w : mW) (v : Option Value) (w' : mW), mx_call kb mt_tab mo_ovr mo_jmp d a As w = some (v, w') → ∀ M, mt_tab[a]? = some M → mx_Met l D cy r B M d As w v w' :=
  mx_met mt_ok hr hkb (mo_ovr_met hr) mo_jmps
end MX8
end
section
/-! ### the law and its nine callers, as records -/
def mt_L_feed : mM := (yL_feed, cL_feed, (6, (some .int), 4, 0, 1), (1039, 1038, 0, 144),
  [(0, .aload 4), (2, .iconst 0), (3, .aload_n 0), (4, .lload_n 1), (5, .iload_n 3), (6, .invokevirtual 7), (9, .i2l), (10, .lastore), (11, .goto 11), (14, .astore 5), (16, .iconst 1), (17, .ireturn), (18, .astore 5), (20, .iconst 2), (21, .ireturn), (22, .iconst 0), (23, .ireturn)],
  [(7, 2, 98, 2, 1042)], none)
set_option maxRecDepth 100000 in
theorem mk_L_feed : (mt_L_feed.2.2.2.2.1.all (mx_rowok cL_feed) && mt_L_feed.2.2.2.2.2.1.all (mx_lkok (fun a => mt_nm[a]?) RL)) = true := sorry
theorem mw_L_feed : mx_wok (fun a => mt_tab[a]?.map (fun M => M.1)) mt_L_feed := by
  rw [mt_names]
  have h := mk_L_feed
  simp only [Bool.and_eq_true, List.all_eq_true] at h
  exact ⟨h.1, h.2, fun ci q => by cases q⟩
def hh_feed : List (Nat × Nat × Nat × Nat) := [(0, 11, 14, 13), (0, 11, 18, 15)]
theorem hw_feed : (mx_at 1039 (.codeWith yL_feed cL_feed 6 (some .int) hh_feed) && mx_at 1038 (.static yL_feed) && mx_at 144 (.initialized RL) && mx_at 1037 (.methodLink RL 52 yL_feed)) = true := by decide +kernel
def mt_L_cls : mM := (yL_cls, cL_cls, (5, (some .int), 4, 0, 1), (1136, 1135, 0, 144),
  [(0, .aload_n 3), (1, .iconst 0), (2, .aload_n 0), (3, .iload_n 1), (4, .iload_n 2), (5, .invokevirtual 17), (8, .lastore), (9, .goto 11), (12, .astore 4), (14, .iconst 1), (15, .ireturn), (16, .astore 4), (18, .iconst 2), (19, .ireturn), (20, .iconst 0), (21, .ireturn)],
  [(17, 2, 101, 2, 1138)], none)
set_option maxRecDepth 100000 in
theorem mk_L_cls : (mt_L_cls.2.2.2.2.1.all (mx_rowok cL_cls) && mt_L_cls.2.2.2.2.2.1.all (mx_lkok (fun a => mt_nm[a]?) RL)) = true := sorry
theorem mw_L_cls : mx_wok (fun a => mt_tab[a]?.map (fun M => M.1)) mt_L_cls := by
  rw [mt_names]
  have h := mk_L_cls
  simp only [Bool.and_eq_true, List.all_eq_true] at h
  exact ⟨h.1, h.2, fun ci q => by cases q⟩
def hh_cls : List (Nat × Nat × Nat × Nat) := [(0, 9, 12, 21), (0, 9, 16, 13)]
theorem hw_cls : (mx_at 1136 (.codeWith yL_cls cL_cls 5 (some .int) hh_cls) && mx_at 1135 (.static yL_cls) && mx_at 144 (.initialized RL) && mx_at 1134 (.methodLink RL 70 yL_cls)) = true := by decide +kernel
def mt_L_isAbove : mM := (yL_isAbove, cL_isAbove, (5, (some .int), 4, 0, 1), (1169, 1168, 0, 144),
  [(0, .aload_n 3), (1, .iconst 0), (2, .aload_n 0), (3, .iload_n 1), (4, .iload_n 2), (5, .invokevirtual 23), (8, .i2l), (9, .lastore), (10, .goto 7), (13, .astore 4), (15, .iconst 1), (16, .ireturn), (17, .iconst 0), (18, .ireturn)],
  [(23, 2, 102, 2, 1170)], none)
set_option maxRecDepth 100000 in
theorem mk_L_isAbove : (mt_L_isAbove.2.2.2.2.1.all (mx_rowok cL_isAbove) && mt_L_isAbove.2.2.2.2.2.1.all (mx_lkok (fun a => mt_nm[a]?) RL)) = true := sorry
theorem mw_L_isAbove : mx_wok (fun a => mt_tab[a]?.map (fun M => M.1)) mt_L_isAbove := by
  rw [mt_names]
  have h := mk_L_isAbove
  simp only [Bool.and_eq_true, List.all_eq_true] at h
  exact ⟨h.1, h.2, fun ci q => by cases q⟩
def hh_isAbove : List (Nat × Nat × Nat × Nat) := [(0, 10, 13, 21)]
theorem hw_isAbove : (mx_at 1169 (.codeWith yL_isAbove cL_isAbove 5 (some .int) hh_isAbove) && mx_at 1168 (.static yL_isAbove) && mx_at 144 (.initialized RL) && mx_at 1167 (.methodLink RL 74 yL_isAbove)) = true := by decide +kernel
def mt_L_parameter : mM := (yL_parameter, cL_parameter, (5, (some .int), 4, 0, 1), (1177, 1176, 0, 144),
  [(0, .aload_n 3), (1, .iconst 0), (2, .aload_n 0), (3, .iload_n 1), (4, .iload_n 2), (5, .invokevirtual 27), (8, .lastore), (9, .goto 11), (12, .astore 4), (14, .iconst 1), (15, .ireturn), (16, .astore 4), (18, .iconst 2), (19, .ireturn), (20, .iconst 0), (21, .ireturn)],
  [(27, 2, 103, 2, 1178)], none)
set_option maxRecDepth 100000 in
theorem mk_L_parameter : (mt_L_parameter.2.2.2.2.1.all (mx_rowok cL_parameter) && mt_L_parameter.2.2.2.2.2.1.all (mx_lkok (fun a => mt_nm[a]?) RL)) = true := sorry
theorem mw_L_parameter : mx_wok (fun a => mt_tab[a]?.map (fun M => M.1)) mt_L_parameter := by
  rw [mt_names]
  have h := mk_L_parameter
  simp only [Bool.and_eq_true, List.all_eq_true] at h
  exact ⟨h.1, h.2, fun ci q => by cases q⟩
def hh_parameter : List (Nat × Nat × Nat × Nat) := [(0, 9, 12, 21), (0, 9, 16, 13)]
theorem hw_parameter : (mx_at 1177 (.codeWith yL_parameter cL_parameter 5 (some .int) hh_parameter) && mx_at 1176 (.static yL_parameter) && mx_at 144 (.initialized RL) && mx_at 1175 (.methodLink RL 77 yL_parameter)) = true := by decide +kernel
def mt_L_way : mM := (yL_way, cL_way, (5, (some .int), 4, 0, 1), (1186, 1185, 0, 144),
  [(0, .aload_n 3), (1, .iconst 0), (2, .aload_n 0), (3, .iload_n 1), (4, .iload_n 2), (5, .invokevirtual 30), (8, .i2l), (9, .lastore), (10, .goto 7), (13, .astore 4), (15, .iconst 1), (16, .ireturn), (17, .iconst 0), (18, .ireturn)],
  [(30, 2, 104, 2, 1187)], none)
set_option maxRecDepth 100000 in
theorem mk_L_way : (mt_L_way.2.2.2.2.1.all (mx_rowok cL_way) && mt_L_way.2.2.2.2.2.1.all (mx_lkok (fun a => mt_nm[a]?) RL)) = true := sorry
theorem mw_L_way : mx_wok (fun a => mt_tab[a]?.map (fun M => M.1)) mt_L_way := by
  rw [mt_names]
  have h := mk_L_way
  simp only [Bool.and_eq_true, List.all_eq_true] at h
  exact ⟨h.1, h.2, fun ci q => by cases q⟩
def hh_way : List (Nat × Nat × Nat × Nat) := [(0, 10, 13, 21)]
theorem hw_way : (mx_at 1186 (.codeWith yL_way cL_way 5 (some .int) hh_way) && mx_at 1185 (.static yL_way) && mx_at 144 (.initialized RL) && mx_at 1184 (.methodLink RL 80 yL_way)) = true := by decide +kernel
def mt_L_ask : mM := (yL_ask, cL_ask, (4, (some .int), 3, 0, 1), (1193, 1192, 0, 144),
  [(0, .aload_n 2), (1, .iconst 0), (2, .aload_n 0), (3, .iload_n 1), (4, .invokevirtual 33), (7, .i2l), (8, .lastore), (9, .goto 6), (12, .astore_n 3), (13, .iconst 1), (14, .ireturn), (15, .iconst 0), (16, .ireturn)],
  [(33, 2, 105, 1, 1194)], none)
set_option maxRecDepth 100000 in
theorem mk_L_ask : (mt_L_ask.2.2.2.2.1.all (mx_rowok cL_ask) && mt_L_ask.2.2.2.2.2.1.all (mx_lkok (fun a => mt_nm[a]?) RL)) = true := sorry
theorem mw_L_ask : mx_wok (fun a => mt_tab[a]?.map (fun M => M.1)) mt_L_ask := by
  rw [mt_names]
  have h := mk_L_ask
  simp only [Bool.and_eq_true, List.all_eq_true] at h
  exact ⟨h.1, h.2, fun ci q => by cases q⟩
def hh_ask : List (Nat × Nat × Nat × Nat) := [(0, 9, 12, 13)]
theorem hw_ask : (mx_at 1193 (.codeWith yL_ask cL_ask 4 (some .int) hh_ask) && mx_at 1192 (.static yL_ask) && mx_at 144 (.initialized RL) && mx_at 1191 (.methodLink RL 83 yL_ask)) = true := by decide +kernel
def mt_L_told : mM := (yL_told, cL_told, (4, (some .int), 3, 0, 1), (1236, 1235, 0, 144),
  [(0, .aload_n 2), (1, .iconst 0), (2, .aload_n 0), (3, .iload_n 1), (4, .invokevirtual 37), (7, .i2l), (8, .lastore), (9, .goto 6), (12, .astore_n 3), (13, .iconst 1), (14, .ireturn), (15, .iconst 0), (16, .ireturn)],
  [(37, 2, 106, 1, 1237)], none)
set_option maxRecDepth 100000 in
theorem mk_L_told : (mt_L_told.2.2.2.2.1.all (mx_rowok cL_told) && mt_L_told.2.2.2.2.2.1.all (mx_lkok (fun a => mt_nm[a]?) RL)) = true := sorry
theorem mw_L_told : mx_wok (fun a => mt_tab[a]?.map (fun M => M.1)) mt_L_told := by
  rw [mt_names]
  have h := mk_L_told
  simp only [Bool.and_eq_true, List.all_eq_true] at h
  exact ⟨h.1, h.2, fun ci q => by cases q⟩
def hh_told : List (Nat × Nat × Nat × Nat) := [(0, 9, 12, 13)]
theorem hw_told : (mx_at 1236 (.codeWith yL_told cL_told 4 (some .int) hh_told) && mx_at 1235 (.static yL_told) && mx_at 144 (.initialized RL) && mx_at 1234 (.methodLink RL 87 yL_told)) = true := by decide +kernel
def mt_L_variable : mM := (yL_variable, cL_variable, (5, (some .int), 4, 0, 1), (1244, 1243, 0, 144),
  [(0, .aload_n 3), (1, .iconst 0), (2, .aload_n 0), (3, .iload_n 1), (4, .iload_n 2), (5, .invokevirtual 40), (8, .i2l), (9, .lastore), (10, .goto 7), (13, .astore 4), (15, .iconst 1), (16, .ireturn), (17, .iconst 0), (18, .ireturn)],
  [(40, 2, 108, 2, 1245)], none)
set_option maxRecDepth 100000 in
theorem mk_L_variable : (mt_L_variable.2.2.2.2.1.all (mx_rowok cL_variable) && mt_L_variable.2.2.2.2.2.1.all (mx_lkok (fun a => mt_nm[a]?) RL)) = true := sorry
theorem mw_L_variable : mx_wok (fun a => mt_tab[a]?.map (fun M => M.1)) mt_L_variable := by
  rw [mt_names]
  have h := mk_L_variable
  simp only [Bool.and_eq_true, List.all_eq_true] at h
  exact ⟨h.1, h.2, fun ci q => by cases q⟩
def hh_variable : List (Nat × Nat × Nat × Nat) := [(0, 10, 13, 21)]
theorem hw_variable : (mx_at 1244 (.codeWith yL_variable cL_variable 5 (some .int) hh_variable) && mx_at 1243 (.static yL_variable) && mx_at 144 (.initialized RL) && mx_at 1242 (.methodLink RL 94 yL_variable)) = true := by decide +kernel
def mt_L_written : mM := (yL_written, cL_written, (4, (some .int), 3, 0, 1), (1253, 1252, 0, 144),
  [(0, .aload_n 2), (1, .iconst 0), (2, .aload_n 0), (3, .iload_n 1), (4, .invokevirtual 43), (7, .i2l), (8, .lastore), (9, .goto 6), (12, .astore_n 3), (13, .iconst 1), (14, .ireturn), (15, .iconst 0), (16, .ireturn)],
  [(43, 2, 109, 1, 1254)], none)
set_option maxRecDepth 100000 in
theorem mk_L_written : (mt_L_written.2.2.2.2.1.all (mx_rowok cL_written) && mt_L_written.2.2.2.2.2.1.all (mx_lkok (fun a => mt_nm[a]?) RL)) = true := sorry
theorem mw_L_written : mx_wok (fun a => mt_tab[a]?.map (fun M => M.1)) mt_L_written := by
  rw [mt_names]
  have h := mk_L_written
  simp only [Bool.and_eq_true, List.all_eq_true] at h
  exact ⟨h.1, h.2, fun ci q => by cases q⟩
def hh_written : List (Nat × Nat × Nat × Nat) := [(0, 9, 12, 21)]
theorem hw_written : (mx_at 1253 (.codeWith yL_written cL_written 4 (some .int) hh_written) && mx_at 1252 (.static yL_written) && mx_at 144 (.initialized RL) && mx_at 1251 (.methodLink RL 97 yL_written)) = true := by decide +kernel
def mt_L_law : mM := (yL_law, cL_law, (8, (some .boolean), 1, 0, 1), (0, 0, 0, 144),
  [(0, .new 8), (3, .dup), (4, .invokespecial 46), (7, .astore_n 1), (8, .new 47), (11, .dup), (12, .invokespecial 49), (15, .astore_n 2), (16, .iconst 1), (17, .newarray .long), (19, .astore_n 3), (20, .iconst 0), (21, .istore 4), (23, .iload 4), (25, .aload_n 0), (26, .arraylength), (27, .iconst 4), (28, .isub), (29, .if_icmp .gt 737), (32, .aload_n 0), (33, .iload 4), (35, .iaload), (36, .bipush 15), (38, .iand), (39, .tableswitch 721 0 12 #[65, 165, 178, 191, 258, 326, 393, 461, 517, 573, 586, 654, 710]), (104, .aload_n 1), (105, .aload_n 0), (106, .iload 4), (108, .iconst 1), (109, .iadd), (110, .iaload), (111, .i2l), (112, .bipush 32), (114, .lshl), (115, .aload_n 0), (116, .iload 4), (118, .iconst 2), (119, .iadd), (120, .iaload), (121, .i2l), (122, .ldc2_w 50), (125, .land), (126, .lor), (127, .aload_n 0), (128, .iload 4), (130, .iconst 3), (131, .iadd), (132, .iaload), (133, .aload_n 3), (134, .invokestatic 52), (137, .istore 5), (139, .aload_n 2), (140, .aload_n 0), (141, .iload 4), (143, .iconst 1), (144, .iadd), (145, .iaload), (146, .i2l), (147, .bipush 32), (149, .lshl), (150, .aload_n 0), (151, .iload 4), (153, .iconst 2), (154, .iadd), (155, .iaload), (156, .i2l), (157, .ldc2_w 50), (160, .land), (161, .lor), (162, .aload_n 0), (163, .iload 4), (165, .iconst 3), (166, .iadd), (167, .iaload), (168, .invokevirtual 57), (171, .istore 6), (173, .aload_n 2), (174, .invokevirtual 58), (177, .iload 5), (179, .if_icmp .eq 5), (182, .iconst 0), (183, .ireturn), (184, .iload 5), (186, .ifCond .ne 15), (189, .aload_n 3), (190, .iconst 0), (191, .laload), (192, .iload 6), (194, .i2l), (195, .lcmp), (196, .ifCond .eq 5), (199, .iconst 0), (200, .ireturn), (201, .goto 559), (204, .aload_n 1), (205, .invokevirtual 62), (208, .aload_n 2), (209, .invokevirtual 65), (212, .if_icmp .eq 548), (215, .iconst 0), (216, .ireturn), (217, .aload_n 1), (218, .invokevirtual 66), (221, .aload_n 2), (222, .invokevirtual 69), (225, .if_icmp .eq 535), (228, .iconst 0), (229, .ireturn), (230, .aload_n 1), (231, .aload_n 0), (232, .iload 4), (234, .iconst 1), (235, .iadd), (236, .iaload), (237, .aload_n 0), (238, .iload 4), (240, .iconst 2), (241, .iadd), (242, .iaload), (243, .aload_n 3), (244, .invokestatic 70), (247, .istore 5), (249, .aload_n 2), (250, .aload_n 0), (251, .iload 4), (253, .iconst 1), (254, .iadd), (255, .iaload), (256, .aload_n 0), (257, .iload 4), (259, .iconst 2), (260, .iadd), (261, .iaload), (262, .invokevirtual 73), (265, .lstore 6), (267, .aload_n 2), (268, .invokevirtual 58), (271, .iload 5), (273, .if_icmp .eq 5), (276, .iconst 0), (277, .ireturn), (278, .iload 5), (280, .ifCond .ne 14), (283, .aload_n 3), (284, .iconst 0), (285, .laload), (286, .lload 6), (288, .lcmp), (289, .ifCond .eq 5), (292, .iconst 0), (293, .ireturn), (294, .goto 466), (297, .aload_n 1), (298, .aload_n 0), (299, .iload 4), (301, .iconst 1), (302, .iadd), (303, .iaload), (304, .aload_n 0), (305, .iload 4), (307, .iconst 2), (308, .iadd), (309, .iaload), (310, .aload_n 3), (311, .invokestatic 74), (314, .istore 5), (316, .aload_n 2), (317, .aload_n 0), (318, .iload 4), (320, .iconst 1), (321, .iadd), (322, .iaload), (323, .aload_n 0), (324, .iload 4), (326, .iconst 2), (327, .iadd), (328, .iaload), (329, .invokevirtual 76), (332, .istore 6), (334, .aload_n 2), (335, .invokevirtual 58), (338, .iload 5), (340, .if_icmp .eq 5), (343, .iconst 0), (344, .ireturn), (345, .iload 5), (347, .ifCond .ne 15), (350, .aload_n 3), (351, .iconst 0), (352, .laload), (353, .iload 6), (355, .i2l), (356, .lcmp), (357, .ifCond .eq 5), (360, .iconst 0), (361, .ireturn), (362, .goto 398), (365, .aload_n 1), (366, .aload_n 0), (367, .iload 4), (369, .iconst 1), (370, .iadd), (371, .iaload), (372, .aload_n 0), (373, .iload 4), (375, .iconst 2), (376, .iadd), (377, .iaload), (378, .aload_n 3), (379, .invokestatic 77), (382, .istore 5), (384, .aload_n 2), (385, .aload_n 0), (386, .iload 4), (388, .iconst 1), (389, .iadd), (390, .iaload), (391, .aload_n 0), (392, .iload 4), (394, .iconst 2), (395, .iadd), (396, .iaload), (397, .invokevirtual 79), (400, .lstore 6), (402, .aload_n 2), (403, .invokevirtual 58), (406, .iload 5), (408, .if_icmp .eq 5), (411, .iconst 0), (412, .ireturn), (413, .iload 5), (415, .ifCond .ne 14), (418, .aload_n 3), (419, .iconst 0), (420, .laload), (421, .lload 6), (423, .lcmp), (424, .ifCond .eq 5), (427, .iconst 0), (428, .ireturn), (429, .goto 331), (432, .aload_n 1), (433, .aload_n 0), (434, .iload 4), (436, .iconst 1), (437, .iadd), (438, .iaload), (439, .aload_n 0), (440, .iload 4), (442, .iconst 2), (443, .iadd), (444, .iaload), (445, .aload_n 3), (446, .invokestatic 80), (449, .istore 5), (451, .aload_n 2), (452, .aload_n 0), (453, .iload 4), (455, .iconst 1), (456, .iadd), (457, .iaload), (458, .aload_n 0), (459, .iload 4), (461, .iconst 2), (462, .iadd), (463, .iaload), (464, .invokevirtual 82), (467, .istore 6), (469, .aload_n 2), (470, .invokevirtual 58), (473, .iload 5), (475, .if_icmp .eq 5), (478, .iconst 0), (479, .ireturn), (480, .iload 5), (482, .ifCond .ne 15), (485, .aload_n 3), (486, .iconst 0), (487, .laload), (488, .iload 6), (490, .i2l), (491, .lcmp), (492, .ifCond .eq 5), (495, .iconst 0), (496, .ireturn), (497, .goto 263), (500, .aload_n 1), (501, .aload_n 0), (502, .iload 4), (504, .iconst 1), (505, .iadd), (506, .iaload), (507, .aload_n 3), (508, .invokestatic 83), (511, .istore 5), (513, .aload_n 2), (514, .aload_n 0), (515, .iload 4), (517, .iconst 1), (518, .iadd), (519, .iaload), (520, .invokevirtual 86), (523, .istore 6), (525, .aload_n 2), (526, .invokevirtual 58), (529, .iload 5), (531, .if_icmp .eq 5), (534, .iconst 0), (535, .ireturn), (536, .iload 5), (538, .ifCond .ne 15), (541, .aload_n 3), (542, .iconst 0), (543, .laload), (544, .iload 6), (546, .i2l), (547, .lcmp), (548, .ifCond .eq 5), (551, .iconst 0), (552, .ireturn), (553, .goto 207), (556, .aload_n 1), (557, .aload_n 0), (558, .iload 4), (560, .iconst 1), (561, .iadd), (562, .iaload), (563, .aload_n 3), (564, .invokestatic 87), (567, .istore 5), (569, .aload_n 2), (570, .aload_n 0), (571, .iload 4), (573, .iconst 1), (574, .iadd), (575, .iaload), (576, .invokevirtual 89), (579, .istore 6), (581, .aload_n 2), (582, .invokevirtual 58), (585, .iload 5), (587, .if_icmp .eq 5), (590, .iconst 0), (591, .ireturn), (592, .iload 5), (594, .ifCond .ne 15), (597, .aload_n 3), (598, .iconst 0), (599, .laload), (600, .iload 6), (602, .i2l), (603, .lcmp), (604, .ifCond .eq 5), (607, .iconst 0), (608, .ireturn), (609, .goto 151), (612, .aload_n 1), (613, .invokevirtual 90), (616, .aload_n 2), (617, .invokevirtual 93), (620, .if_icmp .eq 140), (623, .iconst 0), (624, .ireturn), (625, .aload_n 1), (626, .aload_n 0), (627, .iload 4), (629, .iconst 1), (630, .iadd), (631, .iaload), (632, .aload_n 0), (633, .iload 4), (635, .iconst 2), (636, .iadd), (637, .iaload), (638, .aload_n 3), (639, .invokestatic 94), (642, .istore 5), (644, .aload_n 2), (645, .aload_n 0), (646, .iload 4), (648, .iconst 1), (649, .iadd), (650, .iaload), (651, .aload_n 0), (652, .iload 4), (654, .iconst 2), (655, .iadd), (656, .iaload), (657, .invokevirtual 96), (660, .istore 6), (662, .aload_n 2), (663, .invokevirtual 58), (666, .iload 5), (668, .if_icmp .eq 5), (671, .iconst 0), (672, .ireturn), (673, .iload 5), (675, .ifCond .ne 15), (678, .aload_n 3), (679, .iconst 0), (680, .laload), (681, .iload 6), (683, .i2l), (684, .lcmp), (685, .ifCond .eq 5), (688, .iconst 0), (689, .ireturn), (690, .goto 70), (693, .aload_n 1), (694, .aload_n 0), (695, .iload 4), (697, .iconst 1), (698, .iadd), (699, .iaload), (700, .aload_n 3), (701, .invokestatic 97), (704, .istore 5), (706, .aload_n 2), (707, .aload_n 0), (708, .iload 4), (710, .iconst 1), (711, .iadd), (712, .iaload), (713, .invokevirtual 99), (716, .istore 6), (718, .aload_n 2), (719, .invokevirtual 58), (722, .iload 5), (724, .if_icmp .eq 5), (727, .iconst 0), (728, .ireturn), (729, .iload 5), (731, .ifCond .ne 15), (734, .aload_n 3), (735, .iconst 0), (736, .laload), (737, .iload 6), (739, .i2l), (740, .lcmp), (741, .ifCond .eq 5), (744, .iconst 0), (745, .ireturn), (746, .goto 14), (749, .aload_n 1), (750, .invokevirtual 100), (753, .aload_n 2), (754, .invokevirtual 103), (757, .goto 3), (760, .iinc 4 4), (763, .goto (-740)), (766, .iconst 1), (767, .ireturn)],
  [(8, 9, 8, 0, 169), (46, 6, 97, 0, 171), (47, 9, 9, 0, 1259), (49, 6, 117, 0, 1261), (50, 11, 0, 1800, 4294967295), (57, 2, 180, 2, 1751), (58, 2, 191, 0, 1796), (62, 2, 99, 0, 635), (65, 2, 149, 0, 1526), (66, 2, 100, 0, 936), (69, 2, 181, 0, 1755), (73, 2, 183, 2, 1759), (76, 2, 185, 2, 1772), (79, 2, 187, 2, 1776), (82, 2, 188, 2, 1784), (86, 2, 172, 1, 1655), (89, 2, 189, 1, 1788), (90, 2, 107, 0, 940), (93, 2, 173, 0, 1723), (96, 2, 178, 2, 1743), (99, 2, 179, 1, 1747), (100, 2, 110, 0, 1032), (103, 2, 190, 0, 1792)], none)
set_option maxRecDepth 100000 in
theorem mk_L_law : (mt_L_law.2.2.2.2.1.all (mx_rowok cL_law) && mt_L_law.2.2.2.2.2.1.all (mx_lkok (fun a => mt_nm[a]?) RL)) = true := sorry
theorem mw_L_law : mx_wok (fun a => mt_tab[a]?.map (fun M => M.1)) mt_L_law := by
  rw [mt_names]
  have h := mk_L_law
  simp only [Bool.and_eq_true, List.all_eq_true] at h
  exact ⟨h.1, h.2, fun ci q => by cases q⟩
def ml_w1 : mW := ([.inl (8, [.ref 1, .ref 6, .ref 10, .ref 14, .ref 32, .ref 50, .ref 52, .int 0]),
  .inl (5, [.ref 2, .ref 3, .ref 4, .ref 5, .int 0, .int 0, .int 0, .int 0, .long 0]),
  .inr ((0, 800), .inl (0, [])),
  .inr ((0, 801), .inl (0, [])),
  .inr ((0, 801), .inl (0, [])),
  .inr ((1, 801), .inr (0, [])),
  .inl (7, [.ref 7, .ref 8, .ref 9, .int 0]),
  .inr ((0, 6400), .inl (0, [])),
  .inr ((0, 6400), .inl (0, [])),
  .inr ((0, 80), .inl (0, [])),
  .inl (2, [.ref 11, .ref 12, .ref 13, .int 0, .int 0]),
  .inr ((0, 1000), .inl (0, [])),
  .inr ((0, 1001), .inl (0, [])),
  .inr ((0, 1001), .inl (0, [])),
  .inl (4, [.ref 15, .ref 16, .ref 17, .ref 18, .ref 19, .ref 20, .ref 21, .ref 22, .ref 23, .ref 24, .ref 25, .ref 26, .int 1, .int 0, .int 0]),
  .inr ((1, 21), .inr (0, [(0, 4288121)])),
  .inr ((0, 21), .inl (0, [(0, 0)])),
  .inr ((0, 21), .inl (0, [(0, 0)])),
  .inr ((0, 21), .inl (0, [(0, 0)])),
  .inr ((0, 84), .inl (0, [])),
  .inr ((1, 80), .inr (0, [])),
  .inr ((0, 80), .inl (0, [])),
  .inr ((0, 80), .inl (0, [])),
  .inr ((0, 160), .inl (0, [])),
  .inr ((0, 160), .inl (0, [])),
  .inr ((0, 300), .inl (0, [])),
  .inl (1, [.ref 27, .ref 28, .ref 29, .ref 30, .int 0, .ref 31, .int 1]),
  .inr ((0, 441), .inl (0, [(0, 0)])),
  .inr ((0, 441), .inl (0, [(0, 1)])),
  .inr ((0, 4), .inl (0, [])),
  .inr ((0, 4), .inl (0, [])),
  .inr ((0, 1024), .inl (0, [(0, 0)])),
  .inl (4, [.ref 33, .ref 34, .ref 35, .ref 36, .ref 37, .ref 38, .ref 39, .ref 40, .ref 41, .ref 42, .ref 43, .ref 44, .int 1, .int 0, .int 0]),
  .inr ((1, 21), .inr (0, [(0, 4288121)])),
  .inr ((0, 21), .inl (0, [(0, 0)])),
  .inr ((0, 21), .inl (0, [(0, 0)])),
  .inr ((0, 21), .inl (0, [(0, 0)])),
  .inr ((0, 84), .inl (0, [])),
  .inr ((1, 80), .inr (0, [])),
  .inr ((0, 80), .inl (0, [])),
  .inr ((0, 80), .inl (0, [])),
  .inr ((0, 160), .inl (0, [])),
  .inr ((0, 160), .inl (0, [])),
  .inr ((0, 300), .inl (0, [])),
  .inl (1, [.ref 45, .ref 46, .ref 47, .ref 48, .int 0, .ref 49, .int 1]),
  .inr ((0, 441), .inl (0, [(0, 0)])),
  .inr ((0, 441), .inl (0, [(0, 1)])),
  .inr ((0, 4), .inl (0, [])),
  .inr ((0, 4), .inl (0, [])),
  .inr ((0, 1024), .inl (0, [(0, 0)])),
  .inl (3, [.ref 1, .ref 51, .ref 14, .ref 51, .int 0, .int 0, .int 0, .int 0, .int 0, .int 0, .int 0]),
  .inr ((0, 300), .inl (0, [])),
  .inl (0, [.ref 59, .ref 53, .ref 54, .ref 55, .ref 56, .ref 57, .ref 58, .ref 14, .int 0, .int 0, .int 0, .int 0, .int 0, .int 0, .int 0]),
  .inr ((0, 300), .inl (0, [])),
  .inr ((0, 900), .inl (0, [])),
  .inr ((0, 300), .inl (0, [])),
  .inr ((0, 4), .inl (0, [])),
  .inr ((0, 8), .inl (0, [])),
  .inr ((0, 164), .inl (0, [])),
  .inl (6, [.ref 60, .ref 61, .ref 62, .ref 63, .ref 64, .ref 65, .ref 14, .int 1, .int 0]),
  .inr ((0, 7000), .inl (0, [(0, 0)])),
  .inr ((0, 7000), .inl (0, [(0, 0)])),
  .inr ((0, 7000), .inl (0, [(0, (-1))])),
  .inr ((0, 7000), .inl (0, [])),
  .inr ((0, 2048), .inl ((-1), [(0, 0)])),
  .inr ((0, 300), .inl (0, [])),
  .inl (9, [.ref 67, .ref 68, .ref 69, .ref 70, .ref 71, .ref 72, .ref 73, .int 0, .int 1, .ref 74, .ref 75, .ref 76, .ref 77, .ref 78, .ref 79, .ref 80, .ref 81, .ref 82, .ref 83, .ref 84, .int 1, .int 0, .int 0, .int 1, .int 0, .int 0, .int 0, .int 0, .ref 85, .int 0, .int 0, .int 0, .int 0, .int 0, .int 0, .int 0, .int 0, .int 0, .int 0, .ref 86, .ref 87, .int 0, .ref 88, .ref 89, .ref 90, .int 0, .int 0, .int 0, .int 0, .ref 91, .ref 92, .ref 93, .ref 94, .ref 95, .int 0, .ref 96, .int 0, .int 0, .ref 97, .ref 98, .int 0, .ref 99, .ref 100, .ref 101, .ref 102, .ref 103, .ref 104, .ref 105, .int 0, .ref 106, .int 0, .int 0, .int 0, .ref 107, .int 0, .int 0, .int 0]),
  .inr ((0, 20000), .inl (0, [(0, 0)])),
  .inr ((0, 20000), .inl (0, [(0, 0)])),
  .inr ((0, 20000), .inl (0, [(0, 0)])),
  .inr ((0, 80000), .inl (0, [])),
  .inr ((0, 20000), .inl (0, [(0, 1)])),
  .inr ((0, 20000), .inl (0, [(0, (-1))])),
  .inr ((0, 2048), .inl ((-1), [(0, 0)])),
  .inr ((0, 4), .inl (0, [])),
  .inr ((1, 42), .inr (0, [(0, 4288121)])),
  .inr ((0, 42), .inl (0, [(0, 0)])),
  .inr ((0, 42), .inl (0, [(0, 0)])),
  .inr ((0, 168), .inl (0, [])),
  .inr ((0, 42), .inl (0, [(0, 0)])),
  .inr ((0, 882), .inl (0, [(0, 0), (20, (-1)), (19, (-1)), (18, (-1)), (17, (-1)), (16, (-1)), (15, (-1)), (14, (-1)), (13, (-1)), (12, (-1)), (11, (-1)), (10, (-1)), (9, (-1)), (8, (-1)), (7, (-1)), (6, (-1)), (5, (-1)), (4, (-1)), (3, (-1)), (2, (-1)), (1, (-1)), (0, (-1))])),
  .inr ((1, 160), .inr (0, [])),
  .inr ((0, 160), .inl (0, [])),
  .inr ((0, 320), .inl (0, [])),
  .inr ((0, 160), .inl (0, [])),
  .inr ((0, 800), .inl (0, [])),
  .inr ((0, 6400), .inl (0, [])),
  .inr ((2, 6400), .inl (0, [])),
  .inr ((0, 900), .inl (0, [])),
  .inr ((0, 300), .inl (0, [])),
  .inr ((0, 300), .inl (0, [])),
  .inr ((0, 42), .inl (0, [])),
  .inr ((0, 42), .inl (0, [])),
  .inr ((0, 42), .inl (0, [])),
  .inr ((0, 42), .inl (0, [])),
  .inr ((0, 42), .inl (0, [])),
  .inr ((3, 1000), .inl (0, [])),
  .inr ((0, 20000), .inl (0, [])),
  .inr ((0, 20000), .inl (0, [])),
  .inr ((0, 20000), .inl (0, [])),
  .inr ((2, 10), .inl (0, [])),
  .inr ((0, 10), .inl (0, [])),
  .inr ((0, 10), .inl (0, [])),
  .inr ((0, 40), .inl (0, [])),
  .inr ((0, 10), .inl (0, [])),
  .inr ((0, 20000), .inl (0, [])),
  .inr ((0, 20000), .inl (0, [])),
  .inr ((0, 4), .inl (0, [])),
  .inr ((1, 1), .inr (0, []))], 357940)
def ml_lv : List (Nat × Value) := [(4, .int 0), (3, .ref 108), (2, .ref 66), (1, .ref 0), (0, .ref 1048576)]
def ml_kb0 : mK := [((.eq, .ref mx_F, .int 0), true)]
def ml_call (kb : mK) : Nat → List Value → mW → Option (Option Value × mW) := mx_call kb mt_tab mo_ovr mo_jmp 40
def dq_s {α β : Type} (f : DecidableEq α) (g : DecidableEq β) : DecidableEq (α ⊕ β) := fun x y => match x, y with
  | .inl a, .inl b => match f a b with
    | isTrue h => isTrue (by rw [h])
    | isFalse h => isFalse (by intro q; cases q; exact h rfl)
  | .inr a, .inr b => match g a b with
    | isTrue h => isTrue (by rw [h])
    | isFalse h => isFalse (by intro q; cases q; exact h rfl)
  | .inl _, .inr _ => isFalse (by intro q; cases q)
  | .inr _, .inl _ => isFalse (by intro q; cases q)
def dq_1 : DecidableEq mI := inferInstance
def dq_2 : DecidableEq mJ := inferInstance
def dq_3 : DecidableEq (Nat × List Value) := inferInstance
def dq_4 : DecidableEq mE := dq_s dq_3 (@instDecidableEqProd _ _ inferInstance (dq_s dq_1 dq_2))
def dq_5 : DecidableEq mW := @instDecidableEqProd _ _ (@instDecidableEqList _ dq_4) inferInstance
def dq_6 : DecidableEq mS := @instDecidableEqProd _ _ inferInstance (@instDecidableEqProd _ _ inferInstance (@instDecidableEqProd _ _ inferInstance dq_5))
def dq_7 : DecidableEq (Option Value × mW) := @instDecidableEqProd _ _ inferInstance dq_5
/-- two ends of runs are the same -/
def mq (a b : Option mS) : Bool := match a, b with
  | some x, some y => @decide (x = y) (dq_6 x y)
  | _, _ => false
def mq2 (a b : Option (Option Value × mW)) : Bool := match a, b with
  | some x, some y => @decide (x = y) (dq_7 x y)
  | _, _ => false
theorem mq_eq {a b : Option mS} (h : mq a b = true) : a = b := by
  unfold mq at h
  split at h
  · rename_i x y
    rw [@of_decide_eq_true _ (dq_6 x y) h]
  · cases h
theorem mq2_eq {a b : Option (Option Value × mW)} (h : mq2 a b = true) : a = b := by
  unfold mq2 at h
  split at h
  · rename_i x y
    rw [@of_decide_eq_true _ (dq_7 x y) h]
  · cases h
set_option maxRecDepth 1000000 in
theorem ml_run0 : mx_runN ml_kb0 mt_tab (ml_call ml_kb0) none (fun _ => none) mt_L_law 13 (0, [(0, .ref 1048576)], [], ([], 0)) = some (23, ml_lv, [], ml_w1) := mq_eq (by decide +kernel)
end
section
/-! ### exceptions: what a call throws, and who catches it -/
def ms_str : List (Nat × String) := [(64, "a number has 1 to 8 bytes"), (75, "the tape has at most 800 bytes"), (103, "no such class"), (134, "what is 0 to 4"), (143, "no such parameter"), (157, "what is 0 to 3"), (162, "fuel is 0 to 3000"), (210, "what is 0 to 9"), (229, "no such variable"), (237, "no such byte")]
def ms_IAE : String := "java/lang/IllegalArgumentException"
def ms_IOB : String := "java/lang/IndexOutOfBoundsException"
def ms_nm : List String := ["java/lang/RuntimeException", "java/lang/Exception"]
/-- what a throw needs of the start -/
def mx_EX (B : Nat) (U : State) (H : Heap) : Prop := vx_Zq Bundle.tN "UNASSIGNED_STACK" Bundle.steD (fun q => B ≤ q) U H ∧ vx_Zq Bundle.tN "SUPPRESSED_SENTINEL" Bundle.listD (fun q => B ≤ q) U H ∧ (∀ q ∈ ms_str, ∃ sa, vk_R RX8 q.1 q.2 sa U) ∧ va_Nc ms_IAE ms_IOB U
theorem mx_EX.go {B : Nat} {s U : State} {H0 H : Heap} {locs : List Loc} (h : mx_EX B s H0) (hS : va_S (fun q => B ≤ q) H0 H locs) (hW : s.WarmedH U.vm) : mx_EX B U H :=
  ⟨vx_Zq.moved hW.alike (h.1.kept hS.2.1), vx_Zq.moved hW.alike (h.2.1.kept hS.2.1), fun q hq => by
    obtain ⟨sa, h1⟩ := h.2.2.1 q hq
    exact ⟨sa, vk_R.warm hW h1⟩, h.2.2.2.moved hW.alike⟩
def mx_PcX (D : va_G) (cy : Nat → ClassId) (r : Nat → Value) (B : Nat) (a : List Value) (w : mW) : Array Value → State → Prop := fun av U => mx_Pc D cy r B a w av U ∧ mx_EX B U U.heap
theorem mx_blindX {D : va_G} {cy : Nat → ClassId} {r : Nat → Value} {B : Nat} {a : List Value} {w : mW} : FrameBlind (mx_PcX D cy r B a w) := by
  intro av U g mk h
  refine ⟨mx_blind av U g mk h.1, ?_⟩
  have h2 := h.2.go (U := U.calling g mk av) (H := U.heap) (locs := []) va_S.rf (State.WarmedH.refl U)
  exact h2
def mx_XC (D : va_G) (cy : Nat → ClassId) (r : Nat → Value) (B : Nat) (E : String) (w : mW) : String → State → State → Prop := fun E' st t => E' = E ∧ mx_R D cy r B w t.heap ∧ va_F (fun q => B ≤ q) st t
section MX9
variable {l : Launch} {r : Nat → Value} {B : Nat} {D : va_G} {cy : Nat → ClassId}
variable {p : Program} {e : Env} {R : Room} {s : State} {m : MethodId} {args : Array Value} {below : List Frame} {meth : Method} {c : Code} {H : Heap} {locs : List Loc} {cells slots : Nat} {Q : State → Prop}
/-- a call of the class that throws at its 'new' at pcn -/
theorem mv_thr {kb : mK} {d y K pcn ik is ic pk pn : Nat} {M : mM} {a : List Value} {w : mW} {lv : List (Nat × Value)} {E tx : String} (hl : l.stackTraces = false) (hr : mx_r r B) (hkb : mx_kb kb r) (hfz : r mx_F ≠ .int 0) (hM : mt_tab[y]? = some M) (hd6 : 6 ≤ d) (hcl : M.1.cls = RX8)
    (hsum : Nat.ble ((a.map fun v => v.category).sum) M.2.2.1.1 = true) (hrun : mx_runN kb mt_tab (mx_call kb mt_tab mo_ovr mo_jmp d) none (mo_jmp y) M K (0, lv_args 0 a, [], w) = some (pcn, lv, [], w))
    (hE1 : Bundle.fit E = true) (hk : mx_at pk (.classLink RX8 ik E) = true) (hi : mx_at pn (.initialized E) = true) (hs : (is, tx) ∈ ms_str) (hat : ∀ w ∈ vx_atS RX8 ic E ms_nm, w ∈ lw_tbl ∧ mx_ok w = true) (hgood : ∀ w ∈ Cond.classLink RX8 ik E :: Cond.initialized E :: vx_atS RX8 ic E ms_nm, vx_ot w = true)
    (d0 : decode M.2.1 pcn = .ok (.new ik, 3)) (d3 : decode M.2.1 (pcn + 3) = .ok (.dup, 1)) (d4 : decode M.2.1 (pcn + 4) = .ok (.ldc is, 2)) (d6 : decode M.2.1 (pcn + 6) = .ok (.invokespecial ic, 3)) (d9 : decode M.2.1 (pcn + 9) = .ok (.athrow, 1)) :
    vx_Met l M.1 [Cond.code M.1 M.2.1 M.2.2.1.1 M.2.2.1.2.1] { frames := d + 1, cells := 1, slots := 6, locals := 40 * (d + 1) } (mx_PcX D cy r B a w) (fun _ _ _ _ => False) (mx_XC D cy r B E w) 1 6 (fun q => B ≤ q) := by
  have hok := mt_ok M (List.mem_of_getElem? hM)
  obtain ⟨m1, m2, m3, m4, m5, m6, m7, m8, m9, m10, m11⟩ := mx_Mok hok
  refine vx_ofW (cc := M.2.1) (maxL := M.2.2.1.1) (ret := M.2.2.1.2.1) (ws' := []) m9 rfl ?_
  intro p e s m args below meth c s₁ Bd hml hex hv
  obtain ⟨⟨rfl, hE, hK, hR⟩, hEX⟩ := hv
  have hown : s.vm.findClass M.1.cls = some m.cls := findClass_of_methodNamed Bd.named
  have hnm : meth.name = M.1.name := (name_of_methodNamed Bd.named Bd.method).1
  have X : mx_X kb p { frames := d + 1, cells := 1, slots := 6, locals := 40 * (d + 1) } s m meth c D cy r B M none s.heap d := ⟨Bd.exec, Bd.bytes, hml, hown, hE, hK, hr, (fun L q => by cases q), hnm, Nat.le_refl _, Nat.le_refl _, hkb⟩
  have hle : (lg_sl (a.map (mx_v r))).length ≤ M.2.2.1.1 := by rw [mx_sl hr]; exact Nat.le_of_ble_eq_true hsum
  have hlv := lv_entry (a.map (mx_v r)) (n := M.2.2.1.1) hle
  rw [mx_args hr] at hlv
  rw [lg_entry_eq]
  refine W.cs (cells' := w.1.length - w.1.length) (slots' := w.2 - w.2) (by omega) (by omega) ?_
  refine mx_runN_St (l := l) (e := e) (args := (a.map (mx_v r)).toArray) (below := below) mt_ok (mx_wok_of hok) X (mo_met hr hkb d) (mo_jmps y M hM p e _ s m _ below meth c d X) K hrun _ w.1.length w.2 0 0 s.heap _ [] hlv hR va_S.rf (Nat.le_refl _) (Nat.le_refl _) (by show w.1.length - w.1.length ≤ 1; omega) (by show w.2 - w.2 ≤ 6; omega) (fun ls' H' locs' hl' hR' hS' => ?_)
  obtain ⟨sa, hsa⟩ := hEX.2.2.1 _ hs
  show W _ _ _ _ _ _ _ _ _ _ H' locs' (w.1.length - w.1.length) (w.2 - w.2) _ (F0 m pcn ls' [])
  rw [Nat.sub_self, Nat.sub_self]
  rw [hcl] at hown
  refine vx_throwS (A := fun q => B ≤ q) (names := ms_nm) Bd.exec Bd.bytes hl hown hE1 (by decide +kernel) (mx_at_use hk hE) (mx_at_use hi hE) hsa (fun w hw => hE w (hat w hw).1 (hat w hw).2 _) hgood hEX.1 hEX.2.1 hS' (hl'.1.trans hml.symm) d0 d3 d4 d6 d9 (fun x hx => (hex x hx).elim) (by show 2 + 3 < d + 1; omega) (by show 0 + (13 * (2 + 1) + 43) ≤ 40 * (d + 1); omega) (by show 0 + 1 ≤ 1; omega) (by show 0 + 6 ≤ 6; omega) Bd.notSynchronized (fun t ht h1 h2 => ?_) hS'.2.2 (by omega) (by omega)
  refine ⟨rfl, ⟨fun q => absurd q hfz, hR'.2.1, fun j c hj hd => (hR'.2.2 j c hj hd).kept (h2 _ ((hR'.2.2 j c hj hd).lt))⟩, Nat.le_trans hS'.1 h1, fun q g1 g2 => (h2 q (Nat.lt_of_lt_of_le g1 hS'.1)).trans (hS'.2.1 q g1 g2)⟩
/-- behind a throw, with the caller's frame under it -/
theorem mx_thrown {mc ms pc : Nat} {E : String} {w : mW} {ls : Array Slot} {st0 rest : List Value} {H0 : Heap} (hr : vx_Run p l e R s m args below meth c H locs cells slots mc ms (F0 m pc ls st0) rest (fun _ _ _ => False) (mx_XC D cy r B E w) (fun q => B ≤ q)) (hS : va_S (fun q => B ≤ q) H0 H locs)
    (k : ∀ (H' : Heap) (locs' : List Loc) (q : Addr) (ce : Cell), mx_R D cy r B w H' → va_S (fun q => B ≤ q) H0 H' locs' → H'[q]? = some ce → ce.vm = .none → s.vm.findClass E = some ce.cls → vx_W p l e R s m args below meth c H' locs' (cells + mc) (slots + ms) Q (F0 m pc ls rest) q) : W p l e R s m args below meth c H locs cells slots Q (F0 m pc ls st0) := by
  intro T hT X
  rcases hr T hT X with ⟨_, _, _, _, _, _, _, _, _, _, hF, _⟩ | ⟨q, st₀, t, T', L, E', ce, h0, X', hL, e1, e2, ⟨hEE, hR', hz, hk⟩, hce, hcv, hcl, st⟩
  · exact hF.elim
  · subst hEE
    rw [h0] at hz hk
    obtain ⟨t2, a1, b1⟩ := k T'.heap (locs ++ L) q ce (by rw [e1]; exact hR')
      ⟨Nat.le_trans hS.1 (by rw [e1]; exact hz), fun q h1 h2 => by rw [e1, hk q (Nat.lt_of_lt_of_le h1 hS.1) h2]; exact hS.2.1 q h1 h2, fun q hq => by
        rcases List.mem_append.mp hq with h | h
        · exact hS.2.2 q h
        · exact hL q h⟩ (by rw [e1]; exact hce) hcv hcl T' rfl X'
    exact ⟨t2, st.trans a1, b1⟩
/-- one of the law's nine callers, where the class throws E -/
theorem mw_thr {kb : mK} {d K pcv ixv h1 y n0 : Nat} {MW M : mM} {hh : List (Nat × Nat × Nat × Nat)} {a As : List Value} {w : mW} {lv : List (Nat × Value)} {rest : List Value} {E : String} {kq : Int} {kv : Int32} {pw : Nat} (hr : mx_r r B) (hkb : mx_kb kb r) (hMW : mx_wok (fun a => mt_tab[a]?.map (fun M => M.1)) MW) (hWc : MW.1.cls = RL) (hret : MW.2.2.1.2.1 = some .int) (hpw : mx_at pw (.codeWith MW.1 MW.2.1 MW.2.2.1.1 (some .int) hh) = true)
    (hM : mt_tab[y]? = some M) (hmd : M.2.2.1.2.2.2.2 = 0) (hcl : M.1.cls = RX8) (hci : M.2.2.1.2.2.2.1 = 8)
    (hthr : vx_Met l M.1 [Cond.code M.1 M.2.1 M.2.2.1.1 M.2.2.1.2.1] { frames := d + 1, cells := 1, slots := 6, locals := 40 * (d + 1) } (mx_PcX D cy r B (.ref 0 :: As) w) (fun _ _ _ _ => False) (mx_XC D cy r B E w) 1 6 (fun q => B ≤ q))
    (hsum : Nat.ble ((a.map fun v => v.category).sum) MW.2.2.1.1 = true) (hrun : mx_runN kb mt_tab (mx_call kb mt_tab mo_ovr mo_jmp 0) none (fun _ => none) MW K (0, lv_args 0 a, [], w) = some (pcv, lv, As.reverse ++ .ref 0 :: rest, w)) (hAs : As.length = M.2.2.1.2.2.1) (hrest : Nat.ble ((rest.map fun v => v.category).sum) 8 = true)
    (h0w : ∃ fs, w.1[0]? = some (.inl (8, fs))) (hlk : mx_at n0 (.methodLink RL ixv M.1) = true) (dv : decode MW.2.1 pcv = .ok (.invokevirtual ixv, 3))
    (pre : List ExceptionTableEntry) (x : ExceptionTableEntry) (suf : List ExceptionTableEntry) (htab : tableOf hh = pre ++ x :: suf)
    (hpre : ∀ z ∈ pre, E = ms_IAE ∧ z.catchType ≠ 0 ∧ mx_at 0 (.initialized RL) = mx_at 0 (.initialized RL) ∧ ∃ q, mx_at q (.classLink RL z.catchType ms_IOB) = true) (hcov : covers x pcv = true) (hct : x.catchType ≠ 0) {pc2 pc3 : Nat} (hx1 : mx_at pc2 (.classLink RL x.catchType E) = true) (hx2 : mx_at pc3 (.castable E E) = true)
    (hst : (∃ n, decode MW.2.1 x.handlerPc = .ok (.astore n, 2) ∧ n < MW.2.2.1.1 ∧ h1 = x.handlerPc + 2) ∨ (∃ n : Fin 4, decode MW.2.1 x.handlerPc = .ok (.astore_n n, 1) ∧ (n : Nat) < MW.2.2.1.1 ∧ h1 = x.handlerPc + 1)) (hkc : decode MW.2.1 h1 = .ok (.iconst kq, 1)) (hkv : Int32.ofInt kq = kv) (hkr : decode MW.2.1 (h1 + 1) = .ok (.ireturn, 1)) :
    Met l MW.1 [Cond.codeWith MW.1 MW.2.1 MW.2.2.1.1 (some .int) hh] { frames := d + 2, cells := 1, slots := 6, locals := 40 * (d + 2) } (mx_PcX D cy r B a w) (mx_Qc D cy r B (some (.int kv)) w) 1 6 (fun q => B ≤ q) := by
  have hok := mt_ok M (List.mem_of_getElem? hM)
  obtain ⟨m1, m2, m3, m4, m5, m6, m7, m8, m9, m10, m11⟩ := mx_Mok hok
  refine va_MetW (cc := MW.2.1) (maxL := MW.2.2.1.1) (ret := some .int) (hh := hh) (ws' := []) (by rw [hWc]; decide +kernel) rfl ?_
  intro p e s m args below meth c s₁ Bd hml hv
  obtain ⟨⟨rfl, hE, hK, hR⟩, hEX⟩ := hv
  have hown : s.vm.findClass MW.1.cls = some m.cls := findClass_of_methodNamed Bd.named
  have hnm : meth.name = MW.1.name := (name_of_methodNamed Bd.named Bd.method).1
  have hxt : c.exceptionTable.toList = pre ++ x :: suf := by rw [← htab]; exact vx_table (x := MW.1) Bd (mx_at_use hpw hE)
  have X : mx_X kb p { frames := d + 2, cells := 1, slots := 6, locals := 40 * (d + 2) } s m meth c D cy r B MW none s.heap 0 := ⟨Bd.exec, Bd.bytes, hml, hown, hE, hK, hr, (fun L q => by cases q), hnm, (by show 1 ≤ d + 2; omega), (by show 40 * 1 ≤ 40 * (d + 2); omega), hkb⟩
  have hle : (lg_sl (a.map (mx_v r))).length ≤ MW.2.2.1.1 := by rw [mx_sl hr]; exact Nat.le_of_ble_eq_true hsum
  have hlv := lv_entry (a.map (mx_v r)) (n := MW.2.2.1.1) hle
  rw [mx_args hr] at hlv
  rw [lg_entry_eq]
  refine W.cs (cells' := w.1.length - w.1.length) (slots' := w.2 - w.2) (by omega) (by omega) ?_
  refine mx_runN_St (l := l) (e := e) (args := (a.map (mx_v r)).toArray) (below := below) mt_ok hMW X (fun a As w v w' q => by cases q) (fun σ σ' q => by cases q) K hrun _ w.1.length w.2 0 0 s.heap _ [] hlv hR va_S.rf (Nat.le_refl _) (Nat.le_refl _) (by show w.1.length - w.1.length ≤ 1; omega) (by show w.2 - w.2 ≤ 6; omega) (fun ls' H' locs' hl' hR' hS' => ?_)
  show W _ _ _ _ _ _ _ _ _ _ H' locs' (w.1.length - w.1.length) (w.2 - w.2) _ (F0 m pcv ls' ((As.reverse ++ .ref 0 :: rest).map (mx_v r)))
  rw [Nat.sub_self, Nat.sub_self]
  obtain ⟨fs, hw0⟩ := h0w
  have hr0 := hR'.ref hr hw0
  have hsum2 := Nat.le_of_ble_eq_true hrest
  rw [← mx_cats hr] at hsum2
  obtain ⟨n1, n2, q8, n3, n4⟩ := m7 hmd
  rw [hWc] at hown
  have CF : CallFix p m c MW.2.1 MW.2.2.1.1 s (a.map (mx_v r)).toArray [] RL := ⟨Bd.exec, Bd.bytes, hml, hown, fun w hw => by cases hw⟩
  have hws : ∀ w ∈ [Cond.code M.1 M.2.1 M.2.2.1.1 M.2.2.1.2.1], ∀ (a' : Array Value) (U : State), s.WarmedH U.vm → w.before a' U = true := by
    intro w hw a' U hW
    rw [List.mem_singleton.mp hw]
    exact mx_at_use m3 (mx_Env.warm hW hE)
  have hlen : ∀ sig, parseMethodDescriptor M.1.desc = some sig → M.2.2.1.2.2.1 = sig.parameters.length := fun sig hs => by
    have := m8.2.2
    rw [hs] at this
    exact (Option.some.inj this).symm
  have hp : PreV s H' M.1.cls (B + 0) (mx_PcX D cy r B (.ref 0 :: As) w) (As.map (mx_v r)) := ⟨mx_blindX, by rw [← n4]; exact va_recv hK (hR'.P hw0 rfl) (by rw [hci] at n3; exact n3) (q0 := 0) rfl, fun U hU hW => ⟨⟨by simp [mx_v_ref, hr0], mx_Env.warm hW hE, va_K.moved hW.alike hK, by rw [hU]; exact hR'⟩, by rw [hU]; exact hEX.go hS' hW⟩⟩
  refine mx_thrown (D := D) (cy := cy) (r := r) (B := B) (E := E) (w := w) (mc := 1) (ms := 6) (rest := rest.map (mx_v r)) (H0 := s.heap) (vx_runV (As := As.map (mx_v r)) (b := B + 0) (Qc := fun _ _ _ _ => False) CF hthr ⟨⟨rfl, rfl, (by show d + 1 + 1 ≤ d + 2; omega), (by show 8 + (M.2.2.1.1 + 11) + 40 * (d + 1) ≤ 40 * (d + 2); omega), hws, List.mem_singleton.mpr rfl, mx_at_use m3 hE, mx_at_use m4 hE, ⟨m8.1, m8.2.1⟩, hlen, mx_at_use hlk hE⟩, mx_at_use n1 hE, mx_at_use n2 hE⟩ hp rfl (by simpa using hAs) hl'.1 (by show (As.reverse ++ .ref 0 :: rest).map (mx_v r) = _; simp [mx_v_ref, hr0]) (lv_room hsum2) dv ⟨by show 0 + 1 ≤ 1; omega, by show 0 + 6 ≤ 6; omega⟩) hS' (fun H2 locs2 q ce hR2 hS2 hce hcv hcE => ?_)
  refine vx_catch hown pre x suf hxt (fun z hz => ?_) hcov hct (mx_at_use hx1 hE) (mx_at_use hx2 hE) hce hcv hcE ?_
  · obtain ⟨g1, g2, -, q5, g3⟩ := hpre z hz
    right
    refine ⟨g2, ms_IOB, mx_at_use g3 hE, ?_⟩
    rw [g1]; exact hEX.2.2.2
  · have fin : ∀ ls2 : Array Slot, W p l e { frames := d + 2, cells := 1, slots := 6, locals := 40 * (d + 2) } s m (a.map (mx_v r)).toArray below meth c H2 locs2 (0 + 1) (0 + 6) (MQ below (mx_Qc D cy r B (some (.int kv)) w) (a.map (mx_v r)).toArray s 1 6 (fun q => B ≤ q)) (F0 m h1 ls2 []) := by
      intro ls2
      refine lv_iconst Bd.exec Bd.bytes hkc hkv ?_
      exact W.iret Bd.exec Bd.bytes Bd.returns (fun t ht hW => ⟨rfl, by rw [ht]; exact hR2, hS2.F ht⟩) hS2.2.2 hkr Bd.notSynchronized
    rcases hst with ⟨n, g1, g2, rfl⟩ | ⟨n, g1, g2, rfl⟩
    · exact lv_astore Bd.exec Bd.bytes g1 hl' g2 rfl (fun ls2 _ => fin ls2)
    · exact lv_astore_n Bd.exec Bd.bytes g1 rfl hl' g2 rfl (fun ls2 _ => fin ls2)
/-- one of the law's nine callers, where the class answers -/
theorem mw_ret {kb : mK} {d : Nat} {MW : mM} {hh : List (Nat × Nat × Nat × Nat)} {a : List Value} {w w' : mW} {v : Option Value} (hr : mx_r r B) (hkb : mx_kb kb r) (hMW : mx_wok (fun a => mt_tab[a]?.map (fun M => M.1)) MW) (hWc : MW.1.cls = RL) (hret : MW.2.2.1.2.1 = some .int)
    (hsum : Nat.ble ((a.map fun v => v.category).sum) MW.2.2.1.1 = true) (hrun : mx_loop kb mt_tab (mx_call kb mt_tab mo_ovr mo_jmp d) (fun _ => none) MW 1000 (0, lv_args 0 a, [], w) = some (v, w')) :
    Met l MW.1 [Cond.codeWith MW.1 MW.2.1 MW.2.2.1.1 (some .int) hh] { frames := d + 1, cells := w'.1.length - w.1.length, slots := w'.2 - w.2, locals := 40 * (d + 1) } (mx_PcX D cy r B a w) (mx_Qc D cy r B v w') (w'.1.length - w.1.length) (w'.2 - w.2) (fun q => B ≤ q) := by
  refine va_MetW (cc := MW.2.1) (maxL := MW.2.2.1.1) (ret := some .int) (hh := hh) (ws' := []) (by rw [hWc]; decide +kernel) rfl ?_
  intro p e s m args below meth c s₁ Bd hml hv
  obtain ⟨⟨rfl, hE, hK, hR⟩, hEX⟩ := hv
  have hown : s.vm.findClass MW.1.cls = some m.cls := findClass_of_methodNamed Bd.named
  have hnm : meth.name = MW.1.name := (name_of_methodNamed Bd.named Bd.method).1
  have X : mx_X kb p { frames := d + 1, cells := w'.1.length - w.1.length, slots := w'.2 - w.2, locals := 40 * (d + 1) } s m meth c D cy r B MW none s.heap d := ⟨Bd.exec, Bd.bytes, hml, hown, hE, hK, hr, (fun L q => by cases q), hnm, Nat.le_refl _, Nat.le_refl _, hkb⟩
  have hle : (lg_sl (a.map (mx_v r))).length ≤ MW.2.2.1.1 := by rw [mx_sl hr]; exact Nat.le_of_ble_eq_true hsum
  have hlv := lv_entry (a.map (mx_v r)) (n := MW.2.2.1.1) hle
  rw [mx_args hr] at hlv
  rw [lg_entry_eq]
  refine W.cs (cells' := w.1.length - w.1.length) (slots' := w.2 - w.2) (by omega) (by omega) ?_
  exact mx_loop_W (n0 := w.1.length) (z0 := w.2) mt_ok hMW X (by rw [hret]; exact Bd.returns) Bd.notSynchronized (mo_met hr hkb d) (fun σ σ' q => by cases q) (Nat.le_refl _) (Nat.le_refl _) 1000 hrun hlv hR va_S.rf (Nat.le_refl _) (Nat.le_refl _)
end MX9
set_option maxRecDepth 1000000 in
theorem ms_atA : ∀ w ∈ vx_atS RX8 66 ms_IAE ms_nm, w ∈ lw_tbl ∧ mx_ok w = true := by decide +kernel
set_option maxRecDepth 1000000 in
theorem ms_atB : ∀ w ∈ vx_atS RX8 105 ms_IOB ms_nm, w ∈ lw_tbl ∧ mx_ok w = true := by decide +kernel
theorem ms_goA : ∀ w ∈ Cond.classLink RX8 62 ms_IAE :: Cond.initialized ms_IAE :: vx_atS RX8 66 ms_IAE ms_nm, vx_ot w = true := by decide +kernel
theorem ms_goB : ∀ w ∈ Cond.classLink RX8 101 ms_IOB :: Cond.initialized ms_IOB :: vx_atS RX8 105 ms_IOB ms_nm, vx_ot w = true := by decide +kernel
end
section
/-! ### the law: its end, its calls of the nine -/
/-! THE CLAIM OUT OF ONE WALK OF THE LAW'S BODY. Your part is whole_start (and what it stands on); all else here is the same for every law, but numbers. -/
def R_law : String := "BoundTablesLaw"
def lw_P (b : Addr) (xs : List Int32) (args : Array Value) (s : State) : Prop := args = #[.ref b] ∧ s.IntsAt b xs ∧ xs.length ≤ 4 ∧ (Jvm.Cond.and given_1 narrow_1).before args s = true
def lw_Q (_ : Array Value) (s : State) (o : Outcome) (t : State) : Prop := o = .returned (some (.int 1)) ∧ Framed s o t [] 600002 7302232
def lw_Z (below : List Frame) (a : Array Value) (s : State) : State → Prop := fun t => ∃ o, t.status = .running ∧ Ended t below o ∧ lw_Q a s o t
/-- the law's own end, with 1 on the stack, nothing written that was there before, its room as the claim has it -/
theorem lw_ret {p : Program} {l : Launch} {e : Env} {s : State} {m : MethodId} {below : List Frame} {meth : Method} {c : Code} {b : Nat} (hx : p.tables.exec = Jvm.exec) (hb : c.code = code) (hr : meth.sig.returnType = ret) (hlocks : meth.locks = false) {pc : Nat} {H : Heap} {ls : Array Slot} (hdg : decode code pc = .ok (.ireturn, 1)) : W p l e room_1 s m #[Value.ref b] below meth c H [] 600002 7302232 (lw_Z below #[Value.ref b] s) (F0 m pc ls [.int 1]) := by
  intro T hT X
  obtain ⟨fs, hret, hrun, hended, hW, hframe⟩ := X.leave (v := some (.int 1)) (hlocks := hlocks) (fun h => by rw [hr] at h; cases h)
  have hmeth' : T.vm.method? m = some meth := X.method'
  refine ⟨T.setFrames fs, ?_, .returned (some (.int 1)), hrun, hended, rfl, ⟨_, rfl⟩, hW, hframe⟩
  jvm_step X.here [X.here.top, hx, hb, hdg, hmeth', hr, ret, narrow_b1]
  (try refine ⟨rfl, ?_⟩); (try refine ⟨rfl, ?_⟩)
  first | (intro acts; rw [hret _ acts rfl rfl rfl]) | rw [hret _ _ rfl rfl rfl]
  exact Steps.refl _
/-- what holds at the law's entry: the machine, the code, the tables' words (any of lw_tbl by 'hts w (by decide +kernel)'), the script of L ints xs at the cell b, what the Statement gives of the start (any of its parts by flat_of_before) -/
def lw_At (p : Program) (s : State) (m : MethodId) (meth : Method) (c : Code) (b L : Nat) (xs : Nat → Int32) : Prop :=
  p.tables.exec = Jvm.exec ∧ c.code = code ∧ meth.sig.returnType = ret ∧ c.maxLocals = 8 ∧ s.vm.findClass R_law = some m.cls ∧ (∀ w ∈ lw_tbl, w.before #[Value.ref b] s = true) ∧ va_X b L xs s s.heap ∧ b < s.heap.size ∧ meth.locks = false ∧ (Jvm.Cond.and given_1 narrow_1).before #[Value.ref b] s = true
theorem dL_law_38 : decode cL_law 38 = .ok (.iand, 1) := by decide +kernel
theorem dL_law_39 : decode cL_law 39 = .ok (.tableswitch 721 0 12 #[65, 165, 178, 191, 258, 326, 393, 461, 517, 573, 586, 654, 710], 65) := by decide +kernel
theorem dL_law_767 : decode cL_law 767 = .ok (.ireturn, 1) := by decide +kernel
theorem dL_law_134 : decode cL_law 134 = .ok (.invokestatic 52, 3) := by decide +kernel
theorem ml_len : ml_w1.1.length = 109 := by decide +kernel
theorem ml_sz : ml_w1.2 = 357940 := by decide +kernel
def mq3 (o : Option mS) : Bool := match o with
  | some σ => Nat.beq σ.1 767 && decide (σ.2.2.1 = [Value.int 1]) && Nat.ble σ.2.2.2.1.length 600000 && Nat.ble σ.2.2.2.2 7000000
  | none => false
theorem mq3_spec {o : Option mS} (h : mq3 o = true) : ∃ lv w, o = some (767, lv, [Value.int 1], w) ∧ w.1.length ≤ 600000 ∧ w.2 ≤ 7000000 := by
  unfold mq3 at h
  split at h
  · rename_i σ
    obtain ⟨pc, lv, st, w⟩ := σ
    simp only [Bool.and_eq_true, decide_eq_true_eq] at h
    obtain ⟨⟨⟨h1, h2⟩, h3⟩, h4⟩ := h
    have h1 : pc = 767 := Nat.eq_of_beq_eq_true h1
    subst h1
    subst h2
    exact ⟨lv, w, rfl, Nat.le_of_ble_eq_true h3, Nat.le_of_ble_eq_true h4⟩
  · cases h
section ML
variable {p : Program} {l : Launch} {e : Env} {s : State} {m : MethodId} {below : List Frame} {meth : Method} {c : Code} {b : Nat} {r : Nat → Value} {D : va_G} {cy : Nat → ClassId}
/-- where the law stands -/
def ml_C (kb : mK) (p : Program) (s : State) (m : MethodId) (meth : Method) (c : Code) (r : Nat → Value) (D : va_G) (cy : Nat → ClassId) (sc : Option Nat) : Prop := mx_X kb p room_1 s m meth c D cy r s.heap.size mt_L_law sc s.heap 40 ∧ meth.sig.returnType = ret ∧ meth.locks = false
theorem ml_fin {H : Heap} {locs : List Loc} {ls : Array Slot} {cells slots : Nat} (hx : p.tables.exec = Jvm.exec) (hb : c.code = code) (hr : meth.sig.returnType = ret) (hlocks : meth.locks = false) (hS : va_S (fun q => s.heap.size ≤ q) s.heap H locs) (hc : cells ≤ 600002) (hs : slots ≤ 7302232) : W p l e room_1 s m #[Value.ref b] below meth c H locs cells slots (lw_Z below #[Value.ref b] s) (F0 m 767 ls [.int 1]) := by
  refine va_forget (fun q hq => hS.2.2 q hq) ?_
  refine W.widen hc hs ?_
  exact lw_ret hx hb hr hlocks dL_law_767
theorem ml_end {kb : mK} {sc : Option Nat} {K k0 k1 : Nat} {σ : mS} (C : ml_C kb p s m meth c r D cy sc) (hrun : mq3 (mx_runN kb mt_tab (ml_call kb) sc (fun _ => none) mt_L_law K σ) = true) (hk0 : k0 ≤ 2) (hk1 : k1 ≤ 300000) {H : Heap} {ls : Array Slot} {locs : List Loc} (hl : lv_has ls 8 (mx_lv r σ.2.1)) (hR : mx_R D cy r s.heap.size σ.2.2.2 H) (hS : va_S (fun q => s.heap.size ≤ q) s.heap H locs) :
    W p l e room_1 s m #[Value.ref b] below meth c H locs (σ.2.2.2.1.length + k0) (σ.2.2.2.2 + k1) (lw_Z below #[Value.ref b] s) (F0 m σ.1 ls (σ.2.2.1.map (mx_v r))) := by
  obtain ⟨lv', w', h1, h2, h3⟩ := mq3_spec hrun
  obtain ⟨X, hret, hlocks⟩ := C
  have X' := X
  obtain ⟨hx, hb, hml, hown, hE, hK, hr, hsc, hnm, hfr, hlo, hkb⟩ := X'
  exact mx_runN_St (l := l) (e := e) (args := #[Value.ref b]) (below := below) mt_ok mw_L_law X (mo_met hr hkb 40) (fun σ σ' q => by cases q) K h1 _ 0 0 k0 k1 H ls locs hl hR hS (Nat.zero_le _) (Nat.zero_le _) (by show w'.1.length + k0 - 0 ≤ 600002; omega) (by show w'.2 + k1 - 0 ≤ 7302232; omega) (fun ls' H' locs' hl' hR' hS' => ml_fin hx hb hret hlocks hS' (by show w'.1.length + k0 - 0 ≤ 600002; omega) (by show w'.2 + k1 - 0 ≤ 7302232; omega))
/-- a case of the law that calls one of the nine -/
theorem lt_wr {kb : mK} {tgt K1 pcP ixL K4 mc ms f lo pl ps pi pm : Nat} {MW : mM} {hh : List (Nat × Nat × Nat × Nat)} {a : List Value} {w2 : mW} {kv : Int32} (C : ml_C kb p s m meth c r D cy (some 4)) (hEX : mx_EX s.heap.size s s.heap)
    (h1 : mx_runN kb mt_tab (ml_call kb) (some 4) (fun _ => none) mt_L_law K1 (tgt, ml_lv, [], ml_w1) = some (pcP, ml_lv, a.reverse, ml_w1))
    (hMet : Met l MW.1 [Cond.codeWith MW.1 MW.2.1 MW.2.2.1.1 (some .int) hh] { frames := f, cells := mc, slots := ms, locals := lo } (mx_PcX D cy r s.heap.size a ml_w1) (mx_Qc D cy r s.heap.size (some (.int kv)) w2) mc ms (fun q => s.heap.size ≤ q))
    (hw : (mx_at pl (.codeWith MW.1 MW.2.1 MW.2.2.1.1 (some .int) hh) && mx_at ps (.static MW.1) && mx_at pi (.initialized MW.1.cls) && mx_at pm (.methodLink RL ixL MW.1)) = true)
    (hdc : MW.1.cls ≠ "java/lang/invoke/MethodHandle" ∧ MW.1.cls ≠ "java/lang/invoke/VarHandle" ∧ (parseMethodDescriptor MW.1.desc).map (fun d => d.parameters.length) = some a.length)
    (hf : f + 1 ≤ 2048) (hlo : 8 + (MW.2.2.1.1 + 11) + lo ≤ 84000) (hmc : mc ≤ 1) (hms : ms ≤ 6) (hlen2 : w2.1.length = 109) (hz2 : w2.2 = 357940) (dP : decode code pcP = .ok (.invokestatic ixL, 3))
    (h4 : mq3 (mx_runN kb mt_tab (ml_call kb) (some 4) (fun _ => none) mt_L_law K4 (pcP + 3, ml_lv, [.int kv], w2)) = true)
    {H : Heap} {ls : Array Slot} {locs : List Loc} (hl : lv_has ls 8 (mx_lv r ml_lv)) (hR : mx_R D cy r s.heap.size ml_w1 H) (hS : va_S (fun q => s.heap.size ≤ q) s.heap H locs) :
    W p l e room_1 s m #[Value.ref b] below meth c H locs 109 357940 (lw_Z below #[Value.ref b] s) (F0 m tgt ls []) := by
  have C' := C
  obtain ⟨X, hret, hlocks⟩ := C'
  have X' := X
  obtain ⟨hx, hb, hml, hown, hE, hK, hr, hsc, hnm, hfr, hloc, hkb⟩ := X'
  refine W.cs (cells' := ml_w1.1.length + 0 - 0) (slots' := ml_w1.2 + 0 - 0) (by rw [ml_len]) (by rw [ml_sz]) ?_
  refine mx_runN_St (l := l) (e := e) (args := #[Value.ref b]) (below := below) mt_ok mw_L_law X (mo_met hr hkb 40) (fun σ σ' q => by cases q) K1 h1 _ 0 0 0 0 H ls locs hl hR hS (Nat.zero_le _) (Nat.zero_le _) (by show ml_w1.1.length + 0 - 0 ≤ 600002; rw [ml_len]; decide) (by show ml_w1.2 + 0 - 0 ≤ 7302232; rw [ml_sz]; decide) (fun ls' H' locs' hl' hR' hS' => ?_)
  show W _ _ _ _ _ _ _ _ _ _ H' locs' (ml_w1.1.length + 0 - 0) (ml_w1.2 + 0 - 0) _ (F0 m pcP ls' (a.reverse.map (mx_v r)))
  rw [ml_len, ml_sz]
  simp only [Bool.and_eq_true] at hw
  obtain ⟨⟨⟨w1, w2'⟩, w3⟩, w4⟩ := hw
  have CF : CallFix p m c code 8 s #[Value.ref b] [] RL := ⟨hx, hb, hml, hown, fun w hw => by cases hw⟩
  have hws : ∀ w ∈ [Cond.codeWith MW.1 MW.2.1 MW.2.2.1.1 (some .int) hh], ∀ (a' : Array Value) (U : State), s.WarmedH U.vm → w.before a' U = true := by
    intro w hw a' U hW
    rw [List.mem_singleton.mp hw]
    exact mx_at_use w1 (mx_Env.warm hW hE)
  have hlen : ∀ sig, parseMethodDescriptor MW.1.desc = some sig → a.length = sig.parameters.length := fun sig hs => by
    have := hdc.2.2
    rw [hs] at this
    exact (Option.some.inj this).symm
  have hp : PreS s H' (mx_PcX D cy r s.heap.size a ml_w1) (a.map (mx_v r)) := ⟨mx_blindX, fun U hU hW => ⟨⟨rfl, mx_Env.warm hW hE, va_K.moved hW.alike hK, by rw [hU]; exact hR'⟩, by rw [hU]; exact hEX.go hS' hW⟩⟩
  refine mx_run (D := D) (cy := cy) (r := r) (mc := mc) (ms := ms) (v := some (.int kv)) (w' := w2) (rest := []) (a := (a.map (mx_v r)).toArray) (vx_runSW (hh := hh) (As := a.map (mx_v r)) (n := a.length) CF hMet ⟨⟨rfl, rfl, hf, hlo, hws, List.mem_singleton.mpr rfl⟩, mx_at_use w1 hE, mx_at_use w3 hE, ⟨hdc.1, hdc.2.1⟩, hlen, mx_at_use w4 hE, mx_at_use w2' hE⟩ hp rfl (by simp) hl'.1 (by show a.reverse.map (mx_v r) = _; simp) (lv_room (Nat.zero_le _)) dP ⟨by show 109 + 0 - 0 + mc ≤ 600002; omega, by show 357940 + 0 - 0 + ms ≤ 7302232; omega⟩) hS' (fun H2 locs2 hR2 hS2 => ?_)
  have k := ml_end (p := p) (l := l) (e := e) (b := b) (below := below) (k0 := mc) (k1 := ms) C h4 (by omega) (by omega) hl' hR2 hS2
  simp only [hlen2, hz2] at k
  exact k
end ML
end
section
/-! ### feed -/
theorem dL_law_111 : decode cL_law 111 = .ok (.i2l, 1) := by decide +kernel
theorem dL_law_112 : decode cL_law 112 = .ok (.bipush 32, 2) := by decide +kernel
theorem dL_law_114 : decode cL_law 114 = .ok (.lshl, 1) := by decide +kernel
theorem dL_law_115 : decode cL_law 115 = .ok (.aload_n 0, 1) := by decide +kernel
theorem dL_law_116 : decode cL_law 116 = .ok (.iload 4, 2) := by decide +kernel
theorem dL_law_118 : decode cL_law 118 = .ok (.iconst 2, 1) := by decide +kernel
theorem dL_law_119 : decode cL_law 119 = .ok (.iadd, 1) := by decide +kernel
theorem dL_law_120 : decode cL_law 120 = .ok (.iaload, 1) := by decide +kernel
theorem dL_law_121 : decode cL_law 121 = .ok (.i2l, 1) := by decide +kernel
theorem dL_law_122 : decode cL_law 122 = .ok (.ldc2_w 50, 3) := by decide +kernel
theorem dL_law_125 : decode cL_law 125 = .ok (.land, 1) := by decide +kernel
theorem dL_law_126 : decode cL_law 126 = .ok (.lor, 1) := by decide +kernel
theorem dL_law_146 : decode cL_law 146 = .ok (.i2l, 1) := by decide +kernel
theorem dL_law_147 : decode cL_law 147 = .ok (.bipush 32, 2) := by decide +kernel
theorem dL_law_149 : decode cL_law 149 = .ok (.lshl, 1) := by decide +kernel
theorem dL_law_150 : decode cL_law 150 = .ok (.aload_n 0, 1) := by decide +kernel
theorem dL_law_151 : decode cL_law 151 = .ok (.iload 4, 2) := by decide +kernel
theorem dL_law_153 : decode cL_law 153 = .ok (.iconst 2, 1) := by decide +kernel
theorem dL_law_154 : decode cL_law 154 = .ok (.iadd, 1) := by decide +kernel
theorem dL_law_155 : decode cL_law 155 = .ok (.iaload, 1) := by decide +kernel
theorem dL_law_156 : decode cL_law 156 = .ok (.i2l, 1) := by decide +kernel
theorem dL_law_157 : decode cL_law 157 = .ok (.ldc2_w 50, 3) := by decide +kernel
theorem dL_law_160 : decode cL_law 160 = .ok (.land, 1) := by decide +kernel
theorem dL_law_161 : decode cL_law 161 = .ok (.lor, 1) := by decide +kernel
section MFE
variable {p : Program} {l : Launch} {e : Env} {s : State} {m : MethodId} {below : List Frame} {meth : Method} {c : Code} {b : Nat} {r : Nat → Value} {D : va_G} {cy : Nat → ClassId} {H : Heap} {ls : Array Slot} {locs : List Loc} {xs : Nat → Int32}
theorem ml_long_111 {kb : mK} (X : mx_X kb p room_1 s m meth c D cy r s.heap.size mt_L_law (some 4) s.heap 40) (hx1 : r 1048578 = .int (xs 1)) (hx2 : r 1048579 = .int (xs 2)) {lv : List (Nat × Value)} {v : Value} {w : mW} (h0 : lv.lookup 0 = some (.ref 1048576)) (h4 : lv.lookup 4 = some (.int 0)) : mx_St p l e room_1 s m #[Value.ref b] below meth c D cy r s.heap.size s.heap 8 (111, lv, [.ref 1048578, v], w) (127, lv, [.double 77, v], w) := by
  obtain ⟨hx, hb, hml, hown, hE, hK, hr, hsc, hnm, hfr, hlo, hkb⟩ := X
  obtain ⟨b2, ys, g1, g2, g3, g4, g5⟩ := hsc 4 rfl
  have y2 : ys 2 = xs 2 := by
    have h := g5 2 (by decide)
    rw [show mx_E + 1 + 2 = 1048579 from rfl, hx2] at h
    cases h
    rfl
  intro Q n0 z0 k0 k1 H ls locs hl hR hS hn0 hz0 hrc hrs kk
  have a0 := mx_lv_at hl h0
  have a4 := mx_lv_at hl h4
  have a0 : ls[0]? = some (.val (.ref b2)) := by
    rw [a0]
    show some (Slot.val (r mx_E)) = _
    rw [g1]
  show W p l e room_1 s m #[Value.ref b] below meth c H locs _ _ Q (F0 m 111 ls [r 1048578, mx_v r v])
  rw [hx1]
  refine lv_i2l hx hb dL_law_111 rfl ?_
  refine lv_bipush (v := 32) hx hb dL_law_112 (by decide) ?_
  refine lv_lshl hx hb dL_law_114 rfl ?_
  refine lv_aload_n hx hb dL_law_115 rfl a0 ?_
  refine lv_iload hx hb dL_law_116 a4 ?_
  refine lv_iconst (v := 2) hx hb dL_law_118 (by decide) ?_
  refine lv_iadd hx hb dL_law_119 ?_
  rw [show (0 : Int32) + 2 = nI 2 from by decide]
  refine va_sld hx hb g2 g3 g4 hS (i := nI 2) (vp_in_nI (by decide) (by decide)) dL_law_120 ?_
  rw [nI_clamp (by decide), y2]
  refine lv_i2l hx hb dL_law_121 rfl ?_
  refine lv_ldc2 (v := 4294967295) hx hb hown (mx_at_use (q := 1800) (w := .constantLong RL 50 4294967295) (by decide +kernel) hE) dL_law_122 ?_
  refine lv_land hx hb dL_law_125 ?_
  refine lv_lor hx hb dL_law_126 ?_
  have k := kk ls H locs hl hR hS
  have e1 : mx_v r (.double 77) = .long (((xs 1).toInt64 <<< ((32 : Int32).toInt64 &&& 63)) ||| ((xs 2).toInt64 &&& 4294967295)) := by
    simp only [mx_v, mx_lg, hx1, hx2, if_true]
  have e2 : ([Value.double 77, v].map (mx_v r)) = [Value.long (((xs 1).toInt64 <<< ((32 : Int32).toInt64 &&& 63)) ||| ((xs 2).toInt64 &&& 4294967295)), mx_v r v] := by
    simp only [List.map_cons, List.map_nil, e1]
  dsimp only at k
  rw [e2] at k
  exact k
theorem ml_long_146 {kb : mK} (X : mx_X kb p room_1 s m meth c D cy r s.heap.size mt_L_law (some 4) s.heap 40) (hx1 : r 1048578 = .int (xs 1)) (hx2 : r 1048579 = .int (xs 2)) {lv : List (Nat × Value)} {v : Value} {w : mW} (h0 : lv.lookup 0 = some (.ref 1048576)) (h4 : lv.lookup 4 = some (.int 0)) : mx_St p l e room_1 s m #[Value.ref b] below meth c D cy r s.heap.size s.heap 8 (146, lv, [.ref 1048578, v], w) (162, lv, [.double 77, v], w) := by
  obtain ⟨hx, hb, hml, hown, hE, hK, hr, hsc, hnm, hfr, hlo, hkb⟩ := X
  obtain ⟨b2, ys, g1, g2, g3, g4, g5⟩ := hsc 4 rfl
  have y2 : ys 2 = xs 2 := by
    have h := g5 2 (by decide)
    rw [show mx_E + 1 + 2 = 1048579 from rfl, hx2] at h
    cases h
    rfl
  intro Q n0 z0 k0 k1 H ls locs hl hR hS hn0 hz0 hrc hrs kk
  have a0 := mx_lv_at hl h0
  have a4 := mx_lv_at hl h4
  have a0 : ls[0]? = some (.val (.ref b2)) := by
    rw [a0]
    show some (Slot.val (r mx_E)) = _
    rw [g1]
  show W p l e room_1 s m #[Value.ref b] below meth c H locs _ _ Q (F0 m 146 ls [r 1048578, mx_v r v])
  rw [hx1]
  refine lv_i2l hx hb dL_law_146 rfl ?_
  refine lv_bipush (v := 32) hx hb dL_law_147 (by decide) ?_
  refine lv_lshl hx hb dL_law_149 rfl ?_
  refine lv_aload_n hx hb dL_law_150 rfl a0 ?_
  refine lv_iload hx hb dL_law_151 a4 ?_
  refine lv_iconst (v := 2) hx hb dL_law_153 (by decide) ?_
  refine lv_iadd hx hb dL_law_154 ?_
  rw [show (0 : Int32) + 2 = nI 2 from by decide]
  refine va_sld hx hb g2 g3 g4 hS (i := nI 2) (vp_in_nI (by decide) (by decide)) dL_law_155 ?_
  rw [nI_clamp (by decide), y2]
  refine lv_i2l hx hb dL_law_156 rfl ?_
  refine lv_ldc2 (v := 4294967295) hx hb hown (mx_at_use (q := 1800) (w := .constantLong RL 50 4294967295) (by decide +kernel) hE) dL_law_157 ?_
  refine lv_land hx hb dL_law_160 ?_
  refine lv_lor hx hb dL_law_161 ?_
  have k := kk ls H locs hl hR hS
  have e1 : mx_v r (.double 77) = .long (((xs 1).toInt64 <<< ((32 : Int32).toInt64 &&& 63)) ||| ((xs 2).toInt64 &&& 4294967295)) := by
    simp only [mx_v, mx_lg, hx1, hx2, if_true]
  have e2 : ([Value.double 77, v].map (mx_v r)) = [Value.long (((xs 1).toInt64 <<< ((32 : Int32).toInt64 &&& 63)) ||| ((xs 2).toInt64 &&& 4294967295)), mx_v r v] := by
    simp only [List.map_cons, List.map_nil, e1]
  dsimp only at k
  rw [e2] at k
  exact k
/-- the law's case of feed -/
theorem lt_feed {kb : mK} {K4 K5 mc ms f lo : Nat} {a : List Value} {w2 : mW} {kv : Int32} (C : ml_C kb p s m meth c r D cy (some 4)) (hEX : mx_EX s.heap.size s s.heap) (hx1 : r 1048578 = .int (xs 1)) (hx2 : r 1048579 = .int (xs 2))
    (ka : mx_runN kb mt_tab (ml_call kb) (some 4) (fun _ => none) mt_L_law 6 (104, ml_lv, [], ml_w1) = some (111, ml_lv, [.ref 1048578, .ref 0], ml_w1))
    (k1 : mx_runN kb mt_tab (ml_call kb) (some 4) (fun _ => none) mt_L_law 6 (127, ml_lv, [.double 77, .ref 0], ml_w1) = some (134, ml_lv, a.reverse, ml_w1))
    (hMet : Met l yL_feed [Cond.codeWith yL_feed cL_feed 6 (some .int) hh_feed] { frames := f, cells := mc, slots := ms, locals := lo } (mx_PcX D cy r s.heap.size a ml_w1) (mx_Qc D cy r s.heap.size (some (.int kv)) w2) mc ms (fun q => s.heap.size ≤ q))
    (ha : a.length = 4) (hf : f + 1 ≤ 2048) (hlo : 8 + (6 + 11) + lo ≤ 84000) (hmc : mc ≤ 1) (hms : ms ≤ 6) (hlen2 : w2.1.length = 109) (hz2 : w2.2 = 357940)
    (kc : mx_runN kb mt_tab (ml_call kb) (some 4) (fun _ => none) mt_L_law K5 (137, ml_lv, [.int kv], w2) = some (146, mx_st1 ml_lv 5 (.int kv), [.ref 1048578, .ref 66], w2))
    (k4 : mq3 (mx_runN kb mt_tab (ml_call kb) (some 4) (fun _ => none) mt_L_law K4 (162, mx_st1 ml_lv 5 (.int kv), [.double 77, .ref 66], w2)) = true)
    (hl : lv_has ls 8 (mx_lv r ml_lv)) (hR : mx_R D cy r s.heap.size ml_w1 H) (hS : va_S (fun q => s.heap.size ≤ q) s.heap H locs) :
    W p l e room_1 s m #[Value.ref b] below meth c H locs 109 357940 (lw_Z below #[Value.ref b] s) (F0 m 104 ls []) := by
  have C' := C
  obtain ⟨X, hret, hlocks⟩ := C'
  have X' := X
  obtain ⟨hx, hb, hml, hown, hE, hK, hr, hsc, hnm, hfr, hloc, hkb⟩ := X'
  have z1 : ml_w1.1.length + 0 - 0 ≤ room_1.cells := by rw [ml_len]; decide
  have z2 : ml_w1.2 + 0 - 0 ≤ room_1.slots := by rw [ml_sz]; decide
  refine W.cs (cells' := ml_w1.1.length + 0 - 0) (slots' := ml_w1.2 + 0 - 0) (by rw [ml_len]) (by rw [ml_sz]) ?_
  refine mx_runN_St (l := l) (e := e) (args := #[Value.ref b]) (below := below) mt_ok mw_L_law X (mo_met hr hkb 40) (fun σ σ' q => by cases q) 6 ka _ 0 0 0 0 H ls locs hl hR hS (Nat.zero_le _) (Nat.zero_le _) z1 z2 (fun ls H locs hl hR hS => ?_)
  refine ml_long_111 (l := l) (e := e) (below := below) (b := b) (xs := xs) X hx1 hx2 rfl rfl _ 0 0 0 0 H ls locs hl hR hS (Nat.zero_le _) (Nat.zero_le _) z1 z2 (fun ls H locs hl hR hS => ?_)
  refine mx_runN_St (l := l) (e := e) (args := #[Value.ref b]) (below := below) mt_ok mw_L_law X (mo_met hr hkb 40) (fun σ σ' q => by cases q) 6 k1 _ 0 0 0 0 H ls locs hl hR hS (Nat.zero_le _) (Nat.zero_le _) z1 z2 (fun ls' H' locs' hl' hR' hS' => ?_)
  show W _ _ _ _ _ _ _ _ _ _ H' locs' (ml_w1.1.length + 0 - 0) (ml_w1.2 + 0 - 0) _ (F0 m 134 ls' (a.reverse.map (mx_v r)))
  rw [ml_len, ml_sz]
  have hw := hw_feed
  simp only [Bool.and_eq_true] at hw
  obtain ⟨⟨⟨w1, w2'⟩, w3⟩, w4⟩ := hw
  have CF : CallFix p m c code 8 s #[Value.ref b] [] RL := ⟨hx, hb, hml, hown, fun w hw => by cases hw⟩
  have hws : ∀ w ∈ [Cond.codeWith yL_feed cL_feed 6 (some .int) hh_feed], ∀ (a' : Array Value) (U : State), s.WarmedH U.vm → w.before a' U = true := by
    intro w hw a' U hW
    rw [List.mem_singleton.mp hw]
    exact mx_at_use w1 (mx_Env.warm hW hE)
  have hdc : (parseMethodDescriptor yL_feed.desc).map (fun d => d.parameters.length) = some 4 := by decide +kernel
  have hlen : ∀ sig, parseMethodDescriptor yL_feed.desc = some sig → a.length = sig.parameters.length := fun sig hs => by
    have := hdc
    rw [hs] at this
    rw [ha]
    exact (Option.some.inj this).symm
  have hp : PreS s H' (mx_PcX D cy r s.heap.size a ml_w1) (a.map (mx_v r)) := ⟨mx_blindX, fun U hU hW => ⟨⟨rfl, mx_Env.warm hW hE, va_K.moved hW.alike hK, by rw [hU]; exact hR'⟩, by rw [hU]; exact hEX.go hS' hW⟩⟩
  refine mx_run (D := D) (cy := cy) (r := r) (mc := mc) (ms := ms) (v := some (.int kv)) (w' := w2) (rest := []) (a := (a.map (mx_v r)).toArray) (vx_runSW (hh := hh_feed) (As := a.map (mx_v r)) (n := a.length) CF hMet ⟨⟨rfl, rfl, hf, hlo, hws, List.mem_singleton.mpr rfl⟩, mx_at_use w1 hE, mx_at_use w3 hE, ⟨by decide +kernel, by decide +kernel⟩, hlen, mx_at_use w4 hE, mx_at_use w2' hE⟩ hp rfl (by simp) hl'.1 (by show a.reverse.map (mx_v r) = _; simp) (lv_room (Nat.zero_le _)) dL_law_134 ⟨by show 109 + 0 - 0 + mc ≤ 600002; omega, by show 357940 + 0 - 0 + ms ≤ 7302232; omega⟩) hS' (fun H2 locs2 hR2 hS2 => ?_)
  refine W.cs (cells' := w2.1.length + mc - 0) (slots' := w2.2 + ms - 0) (by rw [hlen2]; omega) (by rw [hz2]; omega) ?_
  have z3 : w2.1.length + mc - 0 ≤ room_1.cells := by rw [hlen2]; show 109 + mc - 0 ≤ 600002; omega
  have z4 : w2.2 + ms - 0 ≤ room_1.slots := by rw [hz2]; show 357940 + ms - 0 ≤ 7302232; omega
  refine mx_runN_St (l := l) (e := e) (args := #[Value.ref b]) (below := below) mt_ok mw_L_law X (mo_met hr hkb 40) (fun σ σ' q => by cases q) K5 kc _ 0 0 mc ms H2 ls' locs2 hl' hR2 hS2 (Nat.zero_le _) (Nat.zero_le _) z3 z4 (fun ls3 H3 locs3 hl3 hR3 hS3 => ?_)
  refine ml_long_146 (l := l) (e := e) (below := below) (b := b) (xs := xs) X hx1 hx2 rfl rfl _ 0 0 mc ms H3 ls3 locs3 hl3 hR3 hS3 (Nat.zero_le _) (Nat.zero_le _) z3 z4 (fun ls4 H4 locs4 hl4 hR4 hS4 => ?_)
  exact ml_end (p := p) (l := l) (e := e) (b := b) (below := below) (k0 := mc) (k1 := ms) (σ := (162, mx_st1 ml_lv 5 (.int kv), [.double 77, .ref 66], w2)) C k4 (by omega) (by omega) hl4 hR4 hS4
def kb_feed_a : mK := [((.lt, .ref 1048580, .int 1), true)]
set_option maxRecDepth 1000000 in
theorem k2_feed_a : mx_runN kb_feed_a mt_tab (mx_call kb_feed_a mt_tab mo_ovr mo_jmp 0) none (fun _ => none) mt_L_feed 5 (0, lv_args 0 [.ref 0, .double 77, .ref 1048580, .ref 108], [], ml_w1) = some (6, lv_args 0 [.ref 0, .double 77, .ref 1048580, .ref 108], ([.double 77, .ref 1048580] : List Value).reverse ++ .ref 0 :: [.int 0, .ref 108], ml_w1) := mq_eq (by decide +kernel)
set_option maxRecDepth 1000000 in
theorem k3_feed_a : mx_runN kb_feed_a mt_tab (mx_call kb_feed_a mt_tab mo_ovr mo_jmp 6) none (mo_jmp 98) mt_X8_feed 3 (0, lv_args 0 (.ref 0 :: [.double 77, .ref 1048580]), [], ml_w1) = some (11, lv_args 0 (.ref 0 :: [.double 77, .ref 1048580]), [], ml_w1) := mq_eq (by decide +kernel)
set_option maxRecDepth 1000000 in
theorem ka_feed_a : mx_runN kb_feed_a mt_tab (ml_call kb_feed_a) (some 4) (fun _ => none) mt_L_law 6 (104, ml_lv, [], ml_w1) = some (111, ml_lv, [.ref 1048578, .ref 0], ml_w1) := mq_eq (by decide +kernel)
set_option maxRecDepth 1000000 in
theorem k1_feed_a : mx_runN kb_feed_a mt_tab (ml_call kb_feed_a) (some 4) (fun _ => none) mt_L_law 6 (127, ml_lv, [.double 77, .ref 0], ml_w1) = some (134, ml_lv, ([.ref 0, .double 77, .ref 1048580, .ref 108] : List Value).reverse, ml_w1) := mq_eq (by decide +kernel)
set_option maxRecDepth 1000000 in
theorem kc_feed_a : mx_runN kb_feed_a mt_tab (ml_call kb_feed_a) (some 4) (fun _ => none) mt_L_law 7 (137, ml_lv, [.int 1], ml_w1) = some (146, mx_st1 ml_lv 5 (.int 1), [.ref 1048578, .ref 66], ml_w1) := mq_eq (by decide +kernel)
set_option maxRecDepth 1000000 in
theorem k4_feed_a : mq3 (mx_runN kb_feed_a mt_tab (ml_call kb_feed_a) (some 4) (fun _ => none) mt_L_law 23 (162, mx_st1 ml_lv 5 (.int 1), [.double 77, .ref 66], ml_w1)) = true := by decide +kernel
set_option maxHeartbeats 4000000 in
set_option maxRecDepth 100000 in
theorem ct_feed_a (hl : l.stackTraces = false) (hfz : r mx_F ≠ .int 0) (C : ml_C kb_feed_a p s m meth c r D cy (some 4)) (hx1 : r 1048578 = .int (xs 1)) (hx2 : r 1048579 = .int (xs 2)) (hEX : mx_EX s.heap.size s s.heap) (hv : lv_has ls 8 (mx_lv r ml_lv)) (hR : mx_R D cy r s.heap.size ml_w1 H) (hS : va_S (fun q => s.heap.size ≤ q) s.heap H locs) :
    W p l e room_1 s m #[Value.ref b] below meth c H locs 109 357940 (lw_Z below #[Value.ref b] s) (F0 m 104 ls []) := by
  obtain ⟨hx, hb, hml, hown, hE, hK, hr, hsc, hnm, hfr, hloc, hkb⟩ := C.1
  exact lt_feed (K4 := 23) (K5 := 7) (mc := 1) (ms := 6) (f := 8) (lo := 320) (a := [.ref 0, .double 77, .ref 1048580, .ref 108]) (w2 := ml_w1) (kv := 1) C hEX hx1 hx2 ka_feed_a k1_feed_a (mw_thr (d := 6) (K := 5) (pcv := 6) (ixv := 7) (h1 := 16) (y := 98) (n0 := 1042) (MW := mt_L_feed) (M := mt_X8_feed) (hh := hh_feed) (a := [.ref 0, .double 77, .ref 1048580, .ref 108]) (As := [.double 77, .ref 1048580]) (w := ml_w1) (lv := lv_args 0 [.ref 0, .double 77, .ref 1048580, .ref 108]) (rest := [.int 0, .ref 108]) (E := ms_IAE) (kq := 1) (kv := 1) (pw := 1039) hr hkb mw_L_feed rfl rfl (by decide +kernel) rfl rfl rfl rfl (mv_thr (d := 6) (y := 98) (K := 3) (pcn := 11) (ik := 62) (is := 64) (ic := 66) (pk := 1046) (pn := 161) (M := mt_X8_feed) (a := .ref 0 :: [.double 77, .ref 1048580]) (w := ml_w1) (lv := lv_args 0 (.ref 0 :: [.double 77, .ref 1048580])) (E := ms_IAE) (tx := "a number has 1 to 8 bytes") hl hr hkb hfz rfl (by decide) rfl (by decide +kernel) k3_feed_a (by decide +kernel) (by decide +kernel) (by decide +kernel) (by decide) ms_atA ms_goA (show decode cX8_feed 11 = .ok (.new 62, 3) by decide +kernel) (show decode cX8_feed 14 = .ok (.dup, 1) by decide +kernel) (show decode cX8_feed 15 = .ok (.ldc 64, 2) by decide +kernel) (show decode cX8_feed 17 = .ok (.invokespecial 66, 3) by decide +kernel) (show decode cX8_feed 20 = .ok (.athrow, 1) by decide +kernel)) (by decide +kernel) k2_feed_a rfl (by decide +kernel) ⟨_, rfl⟩ (by decide +kernel) (show decode cL_feed 6 = .ok (.invokevirtual 7, 3) by decide +kernel) [] (⟨0, 11, 14, 13⟩ : ExceptionTableEntry) [(⟨0, 11, 18, 15⟩ : ExceptionTableEntry)] rfl (fun z hz => by cases hz) (by decide) (by decide) (pc2 := 1040) (by decide +kernel) (pc3 := 1048) (by decide +kernel) (Or.inl ⟨5, by decide +kernel, by decide, rfl⟩) (show decode cL_feed 16 = .ok (.iconst 1, 1) by decide +kernel) (by decide) (show decode cL_feed 17 = .ok (.ireturn, 1) by decide +kernel)) rfl (by decide) (by decide) (by decide) (by decide) ml_len ml_sz kc_feed_a k4_feed_a hv hR hS
def kb_feed_r3 : mK := [((.eq, .ref 1048580, .int 3), true)]
def w2_feed_r3 : mW := ([.inl (8, [.ref 1, .ref 6, .ref 10, .ref 14, .ref 32, .ref 50, .ref 52, .int 0]),
  .inl (5, [.ref 2, .ref 3, .ref 4, .ref 5, .int 3, .int 0, .int 0, .int 0, .long 0]),
  .inr ((9, 800), .inl (0, [])),
  .inr ((0, 801), .inl (0, [])),
  .inr ((0, 801), .inl (0, [])),
  .inr ((1, 801), .inr (0, [])),
  .inl (7, [.ref 7, .ref 8, .ref 9, .int 0]),
  .inr ((0, 6400), .inl (0, [])),
  .inr ((0, 6400), .inl (0, [])),
  .inr ((0, 80), .inl (0, [])),
  .inl (2, [.ref 11, .ref 12, .ref 13, .int 0, .int 0]),
  .inr ((0, 1000), .inl (0, [])),
  .inr ((0, 1001), .inl (0, [])),
  .inr ((0, 1001), .inl (0, [])),
  .inl (4, [.ref 15, .ref 16, .ref 17, .ref 18, .ref 19, .ref 20, .ref 21, .ref 22, .ref 23, .ref 24, .ref 25, .ref 26, .int 1, .int 0, .int 0]),
  .inr ((1, 21), .inr (0, [(0, 4288121)])),
  .inr ((0, 21), .inl (0, [(0, 0)])),
  .inr ((0, 21), .inl (0, [(0, 0)])),
  .inr ((0, 21), .inl (0, [(0, 0)])),
  .inr ((0, 84), .inl (0, [])),
  .inr ((1, 80), .inr (0, [])),
  .inr ((0, 80), .inl (0, [])),
  .inr ((0, 80), .inl (0, [])),
  .inr ((0, 160), .inl (0, [])),
  .inr ((0, 160), .inl (0, [])),
  .inr ((0, 300), .inl (0, [])),
  .inl (1, [.ref 27, .ref 28, .ref 29, .ref 30, .int 0, .ref 31, .int 1]),
  .inr ((0, 441), .inl (0, [(0, 0)])),
  .inr ((0, 441), .inl (0, [(0, 1)])),
  .inr ((0, 4), .inl (0, [])),
  .inr ((0, 4), .inl (0, [])),
  .inr ((0, 1024), .inl (0, [(0, 0)])),
  .inl (4, [.ref 33, .ref 34, .ref 35, .ref 36, .ref 37, .ref 38, .ref 39, .ref 40, .ref 41, .ref 42, .ref 43, .ref 44, .int 1, .int 0, .int 0]),
  .inr ((1, 21), .inr (0, [(0, 4288121)])),
  .inr ((0, 21), .inl (0, [(0, 0)])),
  .inr ((0, 21), .inl (0, [(0, 0)])),
  .inr ((0, 21), .inl (0, [(0, 0)])),
  .inr ((0, 84), .inl (0, [])),
  .inr ((1, 80), .inr (0, [])),
  .inr ((0, 80), .inl (0, [])),
  .inr ((0, 80), .inl (0, [])),
  .inr ((0, 160), .inl (0, [])),
  .inr ((0, 160), .inl (0, [])),
  .inr ((0, 300), .inl (0, [])),
  .inl (1, [.ref 45, .ref 46, .ref 47, .ref 48, .int 0, .ref 49, .int 1]),
  .inr ((0, 441), .inl (0, [(0, 0)])),
  .inr ((0, 441), .inl (0, [(0, 1)])),
  .inr ((0, 4), .inl (0, [])),
  .inr ((0, 4), .inl (0, [])),
  .inr ((0, 1024), .inl (0, [(0, 0)])),
  .inl (3, [.ref 1, .ref 51, .ref 14, .ref 51, .int 0, .int 0, .int 0, .int 0, .int 0, .int 0, .int 0]),
  .inr ((0, 300), .inl (0, [])),
  .inl (0, [.ref 59, .ref 53, .ref 54, .ref 55, .ref 56, .ref 57, .ref 58, .ref 14, .int 0, .int 0, .int 0, .int 0, .int 0, .int 0, .int 0]),
  .inr ((0, 300), .inl (0, [])),
  .inr ((0, 900), .inl (0, [])),
  .inr ((0, 300), .inl (0, [])),
  .inr ((0, 4), .inl (0, [])),
  .inr ((0, 8), .inl (0, [])),
  .inr ((0, 164), .inl (0, [])),
  .inl (6, [.ref 60, .ref 61, .ref 62, .ref 63, .ref 64, .ref 65, .ref 14, .int 1, .int 0]),
  .inr ((0, 7000), .inl (0, [(0, 0)])),
  .inr ((0, 7000), .inl (0, [(0, 0)])),
  .inr ((0, 7000), .inl (0, [(0, (-1))])),
  .inr ((0, 7000), .inl (0, [])),
  .inr ((0, 2048), .inl ((-1), [(0, 0)])),
  .inr ((0, 300), .inl (0, [])),
  .inl (9, [.ref 67, .ref 68, .ref 69, .ref 70, .ref 71, .ref 72, .ref 73, .int 0, .int 1, .ref 74, .ref 75, .ref 76, .ref 77, .ref 78, .ref 79, .ref 80, .ref 81, .ref 82, .ref 83, .ref 84, .int 1, .int 0, .int 0, .int 1, .int 0, .int 0, .int 0, .int 0, .ref 85, .int 0, .int 0, .int 0, .int 0, .int 0, .int 0, .int 0, .int 0, .int 0, .int 0, .ref 86, .ref 87, .int 0, .ref 88, .ref 89, .ref 90, .int 0, .int 0, .int 0, .int 0, .ref 91, .ref 92, .ref 93, .ref 94, .ref 95, .int 0, .ref 96, .int 0, .int 0, .ref 97, .ref 98, .int 0, .ref 99, .ref 100, .ref 101, .ref 102, .ref 103, .ref 104, .ref 105, .int 0, .ref 106, .int 0, .int 0, .int 0, .ref 107, .int 0, .int 0, .int 0]),
  .inr ((0, 20000), .inl (0, [(0, 0)])),
  .inr ((0, 20000), .inl (0, [(0, 0)])),
  .inr ((0, 20000), .inl (0, [(0, 0)])),
  .inr ((0, 80000), .inl (0, [])),
  .inr ((0, 20000), .inl (0, [(0, 1)])),
  .inr ((0, 20000), .inl (0, [(0, (-1))])),
  .inr ((0, 2048), .inl ((-1), [(0, 0)])),
  .inr ((0, 4), .inl (0, [])),
  .inr ((1, 42), .inr (0, [(0, 4288121)])),
  .inr ((0, 42), .inl (0, [(0, 0)])),
  .inr ((0, 42), .inl (0, [(0, 0)])),
  .inr ((0, 168), .inl (0, [])),
  .inr ((0, 42), .inl (0, [(0, 0)])),
  .inr ((0, 882), .inl (0, [(0, 0), (20, (-1)), (19, (-1)), (18, (-1)), (17, (-1)), (16, (-1)), (15, (-1)), (14, (-1)), (13, (-1)), (12, (-1)), (11, (-1)), (10, (-1)), (9, (-1)), (8, (-1)), (7, (-1)), (6, (-1)), (5, (-1)), (4, (-1)), (3, (-1)), (2, (-1)), (1, (-1)), (0, (-1))])),
  .inr ((1, 160), .inr (0, [])),
  .inr ((0, 160), .inl (0, [])),
  .inr ((0, 320), .inl (0, [])),
  .inr ((0, 160), .inl (0, [])),
  .inr ((0, 800), .inl (0, [])),
  .inr ((0, 6400), .inl (0, [])),
  .inr ((2, 6400), .inl (0, [])),
  .inr ((0, 900), .inl (0, [])),
  .inr ((0, 300), .inl (0, [])),
  .inr ((0, 300), .inl (0, [])),
  .inr ((0, 42), .inl (0, [])),
  .inr ((0, 42), .inl (0, [])),
  .inr ((0, 42), .inl (0, [])),
  .inr ((0, 42), .inl (0, [])),
  .inr ((0, 42), .inl (0, [])),
  .inr ((3, 1000), .inl (0, [])),
  .inr ((0, 20000), .inl (0, [])),
  .inr ((0, 20000), .inl (0, [])),
  .inr ((0, 20000), .inl (0, [])),
  .inr ((2, 10), .inl (0, [])),
  .inr ((0, 10), .inl (0, [])),
  .inr ((0, 10), .inl (0, [])),
  .inr ((0, 40), .inl (0, [])),
  .inr ((0, 10), .inl (0, [])),
  .inr ((0, 20000), .inl (0, [])),
  .inr ((0, 20000), .inl (0, [])),
  .inr ((0, 4), .inl (0, [])),
  .inr ((1, 1), .inr (0, [(0, 3)]))], 357940)
set_option maxRecDepth 1000000 in
theorem k2_feed_r3 : mx_loop kb_feed_r3 mt_tab (mx_call kb_feed_r3 mt_tab mo_ovr mo_jmp 38) (fun _ => none) mt_L_feed 1000 (0, lv_args 0 [.ref 0, .double 77, .int 3, .ref 108], [], ml_w1) = some (some (.int 0), w2_feed_r3) := mq2_eq (by decide +kernel)
theorem k3_feed_r3 : w2_feed_r3.1.length = 109 ∧ w2_feed_r3.2 = 357940 := by decide +kernel
set_option maxRecDepth 1000000 in
theorem ka_feed_r3 : mx_runN kb_feed_r3 mt_tab (ml_call kb_feed_r3) (some 4) (fun _ => none) mt_L_law 6 (104, ml_lv, [], ml_w1) = some (111, ml_lv, [.ref 1048578, .ref 0], ml_w1) := mq_eq (by decide +kernel)
set_option maxRecDepth 1000000 in
theorem k1_feed_r3 : mx_runN kb_feed_r3 mt_tab (ml_call kb_feed_r3) (some 4) (fun _ => none) mt_L_law 6 (127, ml_lv, [.double 77, .ref 0], ml_w1) = some (134, ml_lv, ([.ref 0, .double 77, .int 3, .ref 108] : List Value).reverse, ml_w1) := mq_eq (by decide +kernel)
set_option maxRecDepth 1000000 in
theorem kc_feed_r3 : mx_runN kb_feed_r3 mt_tab (ml_call kb_feed_r3) (some 4) (fun _ => none) mt_L_law 7 (137, ml_lv, [.int 0], w2_feed_r3) = some (146, mx_st1 ml_lv 5 (.int 0), [.ref 1048578, .ref 66], w2_feed_r3) := mq_eq (by decide +kernel)
set_option maxRecDepth 1000000 in
theorem k4_feed_r3 : mq3 (mx_runN kb_feed_r3 mt_tab (ml_call kb_feed_r3) (some 4) (fun _ => none) mt_L_law 30 (162, mx_st1 ml_lv 5 (.int 0), [.double 77, .ref 66], w2_feed_r3)) = true := by decide +kernel
set_option maxHeartbeats 4000000 in
set_option maxRecDepth 100000 in
theorem ct_feed_r3 (hl : l.stackTraces = false) (hfz : r mx_F ≠ .int 0) (C : ml_C kb_feed_r3 p s m meth c r D cy (some 4)) (hx1 : r 1048578 = .int (xs 1)) (hx2 : r 1048579 = .int (xs 2)) (hEX : mx_EX s.heap.size s s.heap) (hv : lv_has ls 8 (mx_lv r ml_lv)) (hR : mx_R D cy r s.heap.size ml_w1 H) (hS : va_S (fun q => s.heap.size ≤ q) s.heap H locs) :
    W p l e room_1 s m #[Value.ref b] below meth c H locs 109 357940 (lw_Z below #[Value.ref b] s) (F0 m 104 ls []) := by
  obtain ⟨hx, hb, hml, hown, hE, hK, hr, hsc, hnm, hfr, hloc, hkb⟩ := C.1
  exact lt_feed (K4 := 30) (K5 := 7) (mc := w2_feed_r3.1.length - ml_w1.1.length) (ms := w2_feed_r3.2 - ml_w1.2) (f := 39) (lo := 40 * 39) (a := [.ref 0, .double 77, .int 3, .ref 108]) (w2 := w2_feed_r3) (kv := 0) C hEX hx1 hx2 ka_feed_r3 k1_feed_r3 (mw_ret (d := 38) (MW := mt_L_feed) (hh := hh_feed) (a := [.ref 0, .double 77, .int 3, .ref 108]) (w := ml_w1) (w' := w2_feed_r3) (v := some (.int 0)) hr hkb mw_L_feed rfl rfl (by decide +kernel) k2_feed_r3) rfl (by decide) (by decide) (by rw [k3_feed_r3.1, ml_len]; decide) (by rw [k3_feed_r3.2, ml_sz]; decide) k3_feed_r3.1 k3_feed_r3.2 kc_feed_r3 k4_feed_r3 hv hR hS
end MFE
end
