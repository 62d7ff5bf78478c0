section
-- ===== PART A: goes FIRST, ahead of the names: the tables' words, and 'selects' of the private methods out of them =====
/-- a private method of a class that the tables say can be made, by its rows of tables_1 -/
def lw_okq (q : MethodName × Nat) : Prop := (q.1.cls ≠ "java/lang/invoke/MethodHandle" ∧ q.1.cls ≠ "java/lang/invoke/VarHandle") ∧ Cond.instantiable q.1.cls q.2 ∈ tables_1 ∧ Cond.privateMethod q.1 ∈ tables_1 ∧ Cond.instanceMethod q.1 ∈ tables_1
theorem lw_p0 : lw_okq (⟨"DiagramBench$Pool", "enter", "(I)V"⟩, 9) := ⟨⟨by decide +kernel, by decide +kernel⟩, List.mem_of_getElem? (i := 36) (by decide +kernel), List.mem_of_getElem? (i := 49) (by decide +kernel), List.mem_of_getElem? (i := 50) (by decide +kernel)⟩
theorem lw_p1 : lw_okq (⟨"DiagramBench$Net", "gateValue", "(II)I"⟩, 6) := ⟨⟨by decide +kernel, by decide +kernel⟩, List.mem_of_getElem? (i := 80) (by decide +kernel), List.mem_of_getElem? (i := 196) (by decide +kernel), List.mem_of_getElem? (i := 197) (by decide +kernel)⟩
theorem lw_p2 : lw_okq (⟨"DiagramBench", "heldCount", "()I"⟩, 11) := ⟨⟨by decide +kernel, by decide +kernel⟩, List.mem_of_getElem? (i := 9) (by decide +kernel), List.mem_of_getElem? (i := 210) (by decide +kernel), List.mem_of_getElem? (i := 211) (by decide +kernel)⟩
theorem lw_p3 : lw_okq (⟨"DiagramBench$Net", "goInto", "(ILDiagramBench$Order;I)V"⟩, 6) := ⟨⟨by decide +kernel, by decide +kernel⟩, List.mem_of_getElem? (i := 80) (by decide +kernel), List.mem_of_getElem? (i := 224) (by decide +kernel), List.mem_of_getElem? (i := 225) (by decide +kernel)⟩
theorem lw_p4 : lw_okq (⟨"DiagramBench$Order", "put", "(II)V"⟩, 3) := ⟨⟨by decide +kernel, by decide +kernel⟩, List.mem_of_getElem? (i := 19) (by decide +kernel), List.mem_of_getElem? (i := 232) (by decide +kernel), List.mem_of_getElem? (i := 233) (by decide +kernel)⟩
theorem lw_p5 : lw_okq (⟨"DiagramBench", "collect", "()V"⟩, 11) := ⟨⟨by decide +kernel, by decide +kernel⟩, List.mem_of_getElem? (i := 9) (by decide +kernel), List.mem_of_getElem? (i := 265) (by decide +kernel), List.mem_of_getElem? (i := 266) (by decide +kernel)⟩
theorem lw_p6 : lw_okq (⟨"DiagramBench$Pool", "markWith", "(III)V"⟩, 9) := ⟨⟨by decide +kernel, by decide +kernel⟩, List.mem_of_getElem? (i := 36) (by decide +kernel), List.mem_of_getElem? (i := 277) (by decide +kernel), List.mem_of_getElem? (i := 278) (by decide +kernel)⟩
theorem lw_p7 : lw_okq (⟨"DiagramBench", "beginSteps", "()V"⟩, 11) := ⟨⟨by decide +kernel, by decide +kernel⟩, List.mem_of_getElem? (i := 9) (by decide +kernel), List.mem_of_getElem? (i := 297) (by decide +kernel), List.mem_of_getElem? (i := 298) (by decide +kernel)⟩
theorem lw_p8 : lw_okq (⟨"DiagramBench", "building", "(LDiagramBench$Net;I)I"⟩, 11) := ⟨⟨by decide +kernel, by decide +kernel⟩, List.mem_of_getElem? (i := 9) (by decide +kernel), List.mem_of_getElem? (i := 301) (by decide +kernel), List.mem_of_getElem? (i := 302) (by decide +kernel)⟩
theorem lw_p9 : lw_okq (⟨"DiagramBench$Net", "noteNeedsOf", "(I[I)V"⟩, 6) := ⟨⟨by decide +kernel, by decide +kernel⟩, List.mem_of_getElem? (i := 80) (by decide +kernel), List.mem_of_getElem? (i := 309) (by decide +kernel), List.mem_of_getElem? (i := 310) (by decide +kernel)⟩
theorem lw_p10 : lw_okq (⟨"DiagramBench", "variableStep", "(I)I"⟩, 11) := ⟨⟨by decide +kernel, by decide +kernel⟩, List.mem_of_getElem? (i := 9) (by decide +kernel), List.mem_of_getElem? (i := 318) (by decide +kernel), List.mem_of_getElem? (i := 319) (by decide +kernel)⟩
theorem lw_p11 : lw_okq (⟨"DiagramBench$Pool", "nodeFor", "(III)I"⟩, 9) := ⟨⟨by decide +kernel, by decide +kernel⟩, List.mem_of_getElem? (i := 36) (by decide +kernel), List.mem_of_getElem? (i := 330) (by decide +kernel), List.mem_of_getElem? (i := 331) (by decide +kernel)⟩
theorem lw_p12 : lw_okq (⟨"DiagramBench", "measured", "(I)I"⟩, 11) := ⟨⟨by decide +kernel, by decide +kernel⟩, List.mem_of_getElem? (i := 9) (by decide +kernel), List.mem_of_getElem? (i := 334) (by decide +kernel), List.mem_of_getElem? (i := 335) (by decide +kernel)⟩
theorem lw_p13 : lw_okq (⟨"DiagramBench", "madeFor", "(LDiagramBench$Net;II)I"⟩, 11) := ⟨⟨by decide +kernel, by decide +kernel⟩, List.mem_of_getElem? (i := 9) (by decide +kernel), List.mem_of_getElem? (i := 345) (by decide +kernel), List.mem_of_getElem? (i := 346) (by decide +kernel)⟩
theorem lw_p14 : lw_okq (⟨"DiagramBench", "kindStep", "(IIII)I"⟩, 11) := ⟨⟨by decide +kernel, by decide +kernel⟩, List.mem_of_getElem? (i := 9) (by decide +kernel), List.mem_of_getElem? (i := 350) (by decide +kernel), List.mem_of_getElem? (i := 351) (by decide +kernel)⟩
theorem lw_p15 : lw_okq (⟨"DiagramBench$Pool", "makeFrom", "(IIIII)I"⟩, 9) := ⟨⟨by decide +kernel, by decide +kernel⟩, List.mem_of_getElem? (i := 36) (by decide +kernel), List.mem_of_getElem? (i := 359) (by decide +kernel), List.mem_of_getElem? (i := 360) (by decide +kernel)⟩
def lw_privs_1 : List (MethodName × Nat) := [(⟨"DiagramBench$Pool", "enter", "(I)V"⟩, 9), (⟨"DiagramBench$Net", "gateValue", "(II)I"⟩, 6), (⟨"DiagramBench", "heldCount", "()I"⟩, 11), (⟨"DiagramBench$Net", "goInto", "(ILDiagramBench$Order;I)V"⟩, 6), (⟨"DiagramBench$Order", "put", "(II)V"⟩, 3), (⟨"DiagramBench", "collect", "()V"⟩, 11), (⟨"DiagramBench$Pool", "markWith", "(III)V"⟩, 9), (⟨"DiagramBench", "beginSteps", "()V"⟩, 11), (⟨"DiagramBench", "building", "(LDiagramBench$Net;I)I"⟩, 11), (⟨"DiagramBench$Net", "noteNeedsOf", "(I[I)V"⟩, 6), (⟨"DiagramBench", "variableStep", "(I)I"⟩, 11), (⟨"DiagramBench$Pool", "nodeFor", "(III)I"⟩, 9), (⟨"DiagramBench", "measured", "(I)I"⟩, 11), (⟨"DiagramBench", "madeFor", "(LDiagramBench$Net;II)I"⟩, 11), (⟨"DiagramBench", "kindStep", "(IIII)I"⟩, 11), (⟨"DiagramBench$Pool", "makeFrom", "(IIIII)I"⟩, 9)]
theorem lw_r1 : ∀ q ∈ lw_privs_1, lw_okq q := List.forall_mem_cons.mpr ⟨lw_p0, List.forall_mem_cons.mpr ⟨lw_p1, List.forall_mem_cons.mpr ⟨lw_p2, List.forall_mem_cons.mpr ⟨lw_p3, List.forall_mem_cons.mpr ⟨lw_p4, List.forall_mem_cons.mpr ⟨lw_p5, List.forall_mem_cons.mpr ⟨lw_p6, List.forall_mem_cons.mpr ⟨lw_p7, List.forall_mem_cons.mpr ⟨lw_p8, List.forall_mem_cons.mpr ⟨lw_p9, List.forall_mem_cons.mpr ⟨lw_p10, List.forall_mem_cons.mpr ⟨lw_p11, List.forall_mem_cons.mpr ⟨lw_p12, List.forall_mem_cons.mpr ⟨lw_p13, List.forall_mem_cons.mpr ⟨lw_p14, List.forall_mem_cons.mpr ⟨lw_p15, fun _ h => absurd h List.not_mem_nil⟩⟩⟩⟩⟩⟩⟩⟩⟩⟩⟩⟩⟩⟩⟩⟩
theorem lw_p16 : lw_okq (⟨"DiagramBench$Pool", "lowAt", "(II)I"⟩, 9) := ⟨⟨by decide +kernel, by decide +kernel⟩, List.mem_of_getElem? (i := 36) (by decide +kernel), List.mem_of_getElem? (i := 369) (by decide +kernel), List.mem_of_getElem? (i := 370) (by decide +kernel)⟩
theorem lw_p17 : lw_okq (⟨"DiagramBench$Pool", "highAt", "(II)I"⟩, 9) := ⟨⟨by decide +kernel, by decide +kernel⟩, List.mem_of_getElem? (i := 36) (by decide +kernel), List.mem_of_getElem? (i := 373) (by decide +kernel), List.mem_of_getElem? (i := 374) (by decide +kernel)⟩
theorem lw_p18 : lw_okq (⟨"DiagramBench", "letGoBehind", "(LDiagramBench$Net;I)V"⟩, 11) := ⟨⟨by decide +kernel, by decide +kernel⟩, List.mem_of_getElem? (i := 9) (by decide +kernel), List.mem_of_getElem? (i := 377) (by decide +kernel), List.mem_of_getElem? (i := 378) (by decide +kernel)⟩
theorem lw_p19 : lw_okq (⟨"DiagramBench", "keep", "(I)I"⟩, 11) := ⟨⟨by decide +kernel, by decide +kernel⟩, List.mem_of_getElem? (i := 9) (by decide +kernel), List.mem_of_getElem? (i := 381) (by decide +kernel), List.mem_of_getElem? (i := 382) (by decide +kernel)⟩
theorem lw_p20 : lw_okq (⟨"DiagramBench", "give", "(II)I"⟩, 11) := ⟨⟨by decide +kernel, by decide +kernel⟩, List.mem_of_getElem? (i := 9) (by decide +kernel), List.mem_of_getElem? (i := 385) (by decide +kernel), List.mem_of_getElem? (i := 386) (by decide +kernel)⟩
theorem lw_p21 : lw_okq (⟨"DiagramBench", "endSteps", "()V"⟩, 11) := ⟨⟨by decide +kernel, by decide +kernel⟩, List.mem_of_getElem? (i := 9) (by decide +kernel), List.mem_of_getElem? (i := 389) (by decide +kernel), List.mem_of_getElem? (i := 390) (by decide +kernel)⟩
theorem lw_p22 : lw_okq (⟨"DiagramBench$Pool", "markedWith", "(I)I"⟩, 9) := ⟨⟨by decide +kernel, by decide +kernel⟩, List.mem_of_getElem? (i := 36) (by decide +kernel), List.mem_of_getElem? (i := 399) (by decide +kernel), List.mem_of_getElem? (i := 400) (by decide +kernel)⟩
theorem lw_p23 : lw_okq (⟨"DiagramBench", "hasFunction", "(I)Z"⟩, 11) := ⟨⟨by decide +kernel, by decide +kernel⟩, List.mem_of_getElem? (i := 9) (by decide +kernel), List.mem_of_getElem? (i := 411) (by decide +kernel), List.mem_of_getElem? (i := 412) (by decide +kernel)⟩
theorem lw_p24 : lw_okq (⟨"DiagramBench", "fixStep", "(IIZ)I"⟩, 11) := ⟨⟨by decide +kernel, by decide +kernel⟩, List.mem_of_getElem? (i := 9) (by decide +kernel), List.mem_of_getElem? (i := 423) (by decide +kernel), List.mem_of_getElem? (i := 424) (by decide +kernel)⟩
theorem lw_p25 : lw_okq (⟨"DiagramBench$Pool", "fixFrom", "(IIZI)I"⟩, 9) := ⟨⟨by decide +kernel, by decide +kernel⟩, List.mem_of_getElem? (i := 36) (by decide +kernel), List.mem_of_getElem? (i := 431) (by decide +kernel), List.mem_of_getElem? (i := 432) (by decide +kernel)⟩
theorem lw_p26 : lw_okq (⟨"DiagramBench$Pool", "pathsFrom", "(III)I"⟩, 9) := ⟨⟨by decide +kernel, by decide +kernel⟩, List.mem_of_getElem? (i := 36) (by decide +kernel), List.mem_of_getElem? (i := 521) (by decide +kernel), List.mem_of_getElem? (i := 522) (by decide +kernel)⟩
theorem lw_p27 : lw_okq (⟨"DiagramBench", "notePart", "(II)V"⟩, 11) := ⟨⟨by decide +kernel, by decide +kernel⟩, List.mem_of_getElem? (i := 9) (by decide +kernel), List.mem_of_getElem? (i := 533) (by decide +kernel), List.mem_of_getElem? (i := 534) (by decide +kernel)⟩
theorem lw_p28 : lw_okq (⟨"DiagramBenchModel", "isGate", "(II)Z"⟩, 35) := ⟨⟨by decide +kernel, by decide +kernel⟩, List.mem_of_getElem? (i := 549) (by decide +kernel), List.mem_of_getElem? (i := 682) (by decide +kernel), List.mem_of_getElem? (i := 683) (by decide +kernel)⟩
theorem lw_p29 : lw_okq (⟨"DiagramBenchModel", "isOutput", "(II)Z"⟩, 35) := ⟨⟨by decide +kernel, by decide +kernel⟩, List.mem_of_getElem? (i := 549) (by decide +kernel), List.mem_of_getElem? (i := 698) (by decide +kernel), List.mem_of_getElem? (i := 699) (by decide +kernel)⟩
theorem lw_p30 : lw_okq (⟨"DiagramBenchModel", "isEmpty", "()Z"⟩, 35) := ⟨⟨by decide +kernel, by decide +kernel⟩, List.mem_of_getElem? (i := 549) (by decide +kernel), List.mem_of_getElem? (i := 709) (by decide +kernel), List.mem_of_getElem? (i := 710) (by decide +kernel)⟩
theorem lw_p31 : lw_okq (⟨"DiagramBenchModel", "go", "(II)V"⟩, 35) := ⟨⟨by decide +kernel, by decide +kernel⟩, List.mem_of_getElem? (i := 549) (by decide +kernel), List.mem_of_getElem? (i := 713) (by decide +kernel), List.mem_of_getElem? (i := 714) (by decide +kernel)⟩
def lw_privs_2 : List (MethodName × Nat) := [(⟨"DiagramBench$Pool", "lowAt", "(II)I"⟩, 9), (⟨"DiagramBench$Pool", "highAt", "(II)I"⟩, 9), (⟨"DiagramBench", "letGoBehind", "(LDiagramBench$Net;I)V"⟩, 11), (⟨"DiagramBench", "keep", "(I)I"⟩, 11), (⟨"DiagramBench", "give", "(II)I"⟩, 11), (⟨"DiagramBench", "endSteps", "()V"⟩, 11), (⟨"DiagramBench$Pool", "markedWith", "(I)I"⟩, 9), (⟨"DiagramBench", "hasFunction", "(I)Z"⟩, 11), (⟨"DiagramBench", "fixStep", "(IIZ)I"⟩, 11), (⟨"DiagramBench$Pool", "fixFrom", "(IIZI)I"⟩, 9), (⟨"DiagramBench$Pool", "pathsFrom", "(III)I"⟩, 9), (⟨"DiagramBench", "notePart", "(II)V"⟩, 11), (⟨"DiagramBenchModel", "isGate", "(II)Z"⟩, 35), (⟨"DiagramBenchModel", "isOutput", "(II)Z"⟩, 35), (⟨"DiagramBenchModel", "isEmpty", "()Z"⟩, 35), (⟨"DiagramBenchModel", "go", "(II)V"⟩, 35)]
theorem lw_r2 : ∀ q ∈ lw_privs_2, lw_okq q := List.forall_mem_cons.mpr ⟨lw_p16, List.forall_mem_cons.mpr ⟨lw_p17, List.forall_mem_cons.mpr ⟨lw_p18, List.forall_mem_cons.mpr ⟨lw_p19, List.forall_mem_cons.mpr ⟨lw_p20, List.forall_mem_cons.mpr ⟨lw_p21, List.forall_mem_cons.mpr ⟨lw_p22, List.forall_mem_cons.mpr ⟨lw_p23, List.forall_mem_cons.mpr ⟨lw_p24, List.forall_mem_cons.mpr ⟨lw_p25, List.forall_mem_cons.mpr ⟨lw_p26, List.forall_mem_cons.mpr ⟨lw_p27, List.forall_mem_cons.mpr ⟨lw_p28, List.forall_mem_cons.mpr ⟨lw_p29, List.forall_mem_cons.mpr ⟨lw_p30, List.forall_mem_cons.mpr ⟨lw_p31, fun _ h => absurd h List.not_mem_nil⟩⟩⟩⟩⟩⟩⟩⟩⟩⟩⟩⟩⟩⟩⟩⟩
theorem lw_p32 : lw_okq (⟨"DiagramBenchModel", "begin", "()V"⟩, 35) := ⟨⟨by decide +kernel, by decide +kernel⟩, List.mem_of_getElem? (i := 549) (by decide +kernel), List.mem_of_getElem? (i := 736) (by decide +kernel), List.mem_of_getElem? (i := 737) (by decide +kernel)⟩
theorem lw_p33 : lw_okq (⟨"DiagramBenchModel", "builds", "(II)Z"⟩, 35) := ⟨⟨by decide +kernel, by decide +kernel⟩, List.mem_of_getElem? (i := 549) (by decide +kernel), List.mem_of_getElem? (i := 740) (by decide +kernel), List.mem_of_getElem? (i := 741) (by decide +kernel)⟩
theorem lw_p34 : lw_okq (⟨"DiagramBenchModel", "needs", "(II)V"⟩, 35) := ⟨⟨by decide +kernel, by decide +kernel⟩, List.mem_of_getElem? (i := 549) (by decide +kernel), List.mem_of_getElem? (i := 744) (by decide +kernel), List.mem_of_getElem? (i := 745) (by decide +kernel)⟩
theorem lw_p35 : lw_okq (⟨"DiagramBenchModel", "makeVariable", "(II)V"⟩, 35) := ⟨⟨by decide +kernel, by decide +kernel⟩, List.mem_of_getElem? (i := 549) (by decide +kernel), List.mem_of_getElem? (i := 748) (by decide +kernel), List.mem_of_getElem? (i := 749) (by decide +kernel)⟩
theorem lw_p36 : lw_okq (⟨"DiagramBenchModel", "makeChoice", "(IIII)V"⟩, 35) := ⟨⟨by decide +kernel, by decide +kernel⟩, List.mem_of_getElem? (i := 549) (by decide +kernel), List.mem_of_getElem? (i := 753) (by decide +kernel), List.mem_of_getElem? (i := 754) (by decide +kernel)⟩
theorem lw_p37 : lw_okq (⟨"DiagramBenchModel", "makeOf", "(IIII)V"⟩, 35) := ⟨⟨by decide +kernel, by decide +kernel⟩, List.mem_of_getElem? (i := 549) (by decide +kernel), List.mem_of_getElem? (i := 757) (by decide +kernel), List.mem_of_getElem? (i := 758) (by decide +kernel)⟩
theorem lw_p38 : lw_okq (⟨"DiagramBenchModel", "steps", "(I)Z"⟩, 35) := ⟨⟨by decide +kernel, by decide +kernel⟩, List.mem_of_getElem? (i := 549) (by decide +kernel), List.mem_of_getElem? (i := 764) (by decide +kernel), List.mem_of_getElem? (i := 765) (by decide +kernel)⟩
theorem lw_p39 : lw_okq (⟨"DiagramBenchModel", "add", "(I)V"⟩, 35) := ⟨⟨by decide +kernel, by decide +kernel⟩, List.mem_of_getElem? (i := 549) (by decide +kernel), List.mem_of_getElem? (i := 768) (by decide +kernel), List.mem_of_getElem? (i := 769) (by decide +kernel)⟩
theorem lw_p40 : lw_okq (⟨"DiagramBenchModel", "lays", "(III)Z"⟩, 35) := ⟨⟨by decide +kernel, by decide +kernel⟩, List.mem_of_getElem? (i := 549) (by decide +kernel), List.mem_of_getElem? (i := 772) (by decide +kernel), List.mem_of_getElem? (i := 773) (by decide +kernel)⟩
theorem lw_p41 : lw_okq (⟨"DiagramBenchModel", "nodeFor", "(I)I"⟩, 35) := ⟨⟨by decide +kernel, by decide +kernel⟩, List.mem_of_getElem? (i := 549) (by decide +kernel), List.mem_of_getElem? (i := 776) (by decide +kernel), List.mem_of_getElem? (i := 777) (by decide +kernel)⟩
theorem lw_p42 : lw_okq (⟨"DiagramBenchModel", "bucket", "(I)I"⟩, 35) := ⟨⟨by decide +kernel, by decide +kernel⟩, List.mem_of_getElem? (i := 549) (by decide +kernel), List.mem_of_getElem? (i := 780) (by decide +kernel), List.mem_of_getElem? (i := 781) (by decide +kernel)⟩
theorem lw_p43 : lw_okq (⟨"DiagramBenchModel", "remove", "(I)V"⟩, 35) := ⟨⟨by decide +kernel, by decide +kernel⟩, List.mem_of_getElem? (i := 549) (by decide +kernel), List.mem_of_getElem? (i := 785) (by decide +kernel), List.mem_of_getElem? (i := 786) (by decide +kernel)⟩
theorem lw_p44 : lw_okq (⟨"DiagramBenchModel", "unlink", "(I)V"⟩, 35) := ⟨⟨by decide +kernel, by decide +kernel⟩, List.mem_of_getElem? (i := 549) (by decide +kernel), List.mem_of_getElem? (i := 789) (by decide +kernel), List.mem_of_getElem? (i := 790) (by decide +kernel)⟩
theorem lw_p45 : lw_okq (⟨"DiagramBenchModel", "gets", "(IIZ)I"⟩, 35) := ⟨⟨by decide +kernel, by decide +kernel⟩, List.mem_of_getElem? (i := 549) (by decide +kernel), List.mem_of_getElem? (i := 793) (by decide +kernel), List.mem_of_getElem? (i := 794) (by decide +kernel)⟩
theorem lw_p46 : lw_okq (⟨"DiagramBenchModel", "take", "(II)V"⟩, 35) := ⟨⟨by decide +kernel, by decide +kernel⟩, List.mem_of_getElem? (i := 549) (by decide +kernel), List.mem_of_getElem? (i := 797) (by decide +kernel), List.mem_of_getElem? (i := 798) (by decide +kernel)⟩
theorem lw_p47 : lw_okq (⟨"DiagramBenchModel", "clearHand", "()V"⟩, 35) := ⟨⟨by decide +kernel, by decide +kernel⟩, List.mem_of_getElem? (i := 549) (by decide +kernel), List.mem_of_getElem? (i := 801) (by decide +kernel), List.mem_of_getElem? (i := 802) (by decide +kernel)⟩
def lw_privs_3 : List (MethodName × Nat) := [(⟨"DiagramBenchModel", "begin", "()V"⟩, 35), (⟨"DiagramBenchModel", "builds", "(II)Z"⟩, 35), (⟨"DiagramBenchModel", "needs", "(II)V"⟩, 35), (⟨"DiagramBenchModel", "makeVariable", "(II)V"⟩, 35), (⟨"DiagramBenchModel", "makeChoice", "(IIII)V"⟩, 35), (⟨"DiagramBenchModel", "makeOf", "(IIII)V"⟩, 35), (⟨"DiagramBenchModel", "steps", "(I)Z"⟩, 35), (⟨"DiagramBenchModel", "add", "(I)V"⟩, 35), (⟨"DiagramBenchModel", "lays", "(III)Z"⟩, 35), (⟨"DiagramBenchModel", "nodeFor", "(I)I"⟩, 35), (⟨"DiagramBenchModel", "bucket", "(I)I"⟩, 35), (⟨"DiagramBenchModel", "remove", "(I)V"⟩, 35), (⟨"DiagramBenchModel", "unlink", "(I)V"⟩, 35), (⟨"DiagramBenchModel", "gets", "(IIZ)I"⟩, 35), (⟨"DiagramBenchModel", "take", "(II)V"⟩, 35), (⟨"DiagramBenchModel", "clearHand", "()V"⟩, 35)]
theorem lw_r3 : ∀ q ∈ lw_privs_3, lw_okq q := List.forall_mem_cons.mpr ⟨lw_p32, List.forall_mem_cons.mpr ⟨lw_p33, List.forall_mem_cons.mpr ⟨lw_p34, List.forall_mem_cons.mpr ⟨lw_p35, List.forall_mem_cons.mpr ⟨lw_p36, List.forall_mem_cons.mpr ⟨lw_p37, List.forall_mem_cons.mpr ⟨lw_p38, List.forall_mem_cons.mpr ⟨lw_p39, List.forall_mem_cons.mpr ⟨lw_p40, List.forall_mem_cons.mpr ⟨lw_p41, List.forall_mem_cons.mpr ⟨lw_p42, List.forall_mem_cons.mpr ⟨lw_p43, List.forall_mem_cons.mpr ⟨lw_p44, List.forall_mem_cons.mpr ⟨lw_p45, List.forall_mem_cons.mpr ⟨lw_p46, List.forall_mem_cons.mpr ⟨lw_p47, fun _ h => absurd h List.not_mem_nil⟩⟩⟩⟩⟩⟩⟩⟩⟩⟩⟩⟩⟩⟩⟩⟩
theorem lw_p48 : lw_okq (⟨"DiagramBenchModel", "isFunction", "(I)Z"⟩, 35) := ⟨⟨by decide +kernel, by decide +kernel⟩, List.mem_of_getElem? (i := 549) (by decide +kernel), List.mem_of_getElem? (i := 813) (by decide +kernel), List.mem_of_getElem? (i := 814) (by decide +kernel)⟩
theorem lw_p49 : lw_okq (⟨"DiagramBenchModel", "noHalf", "(III)I"⟩, 35) := ⟨⟨by decide +kernel, by decide +kernel⟩, List.mem_of_getElem? (i := 549) (by decide +kernel), List.mem_of_getElem? (i := 825) (by decide +kernel), List.mem_of_getElem? (i := 826) (by decide +kernel)⟩
theorem lw_p50 : lw_okq (⟨"DiagramBenchModel", "makeHalf", "(IIIZ)V"⟩, 35) := ⟨⟨by decide +kernel, by decide +kernel⟩, List.mem_of_getElem? (i := 549) (by decide +kernel), List.mem_of_getElem? (i := 829) (by decide +kernel), List.mem_of_getElem? (i := 830) (by decide +kernel)⟩
theorem lw_p51 : lw_okq (⟨"DiagramBenchModel", "halves", "(II)Z"⟩, 35) := ⟨⟨by decide +kernel, by decide +kernel⟩, List.mem_of_getElem? (i := 549) (by decide +kernel), List.mem_of_getElem? (i := 837) (by decide +kernel), List.mem_of_getElem? (i := 838) (by decide +kernel)⟩
theorem lw_p52 : lw_okq (⟨"DiagramBenchModel", "stands", "(I)I"⟩, 35) := ⟨⟨by decide +kernel, by decide +kernel⟩, List.mem_of_getElem? (i := 549) (by decide +kernel), List.mem_of_getElem? (i := 873) (by decide +kernel), List.mem_of_getElem? (i := 874) (by decide +kernel)⟩
theorem lw_p53 : lw_okq (⟨"DiagramBenchModel", "bit", "(II)Z"⟩, 35) := ⟨⟨by decide +kernel, by decide +kernel⟩, List.mem_of_getElem? (i := 549) (by decide +kernel), List.mem_of_getElem? (i := 877) (by decide +kernel), List.mem_of_getElem? (i := 878) (by decide +kernel)⟩
theorem lw_p54 : lw_okq (⟨"DiagramBenchModel", "hangs", "(II)Z"⟩, 35) := ⟨⟨by decide +kernel, by decide +kernel⟩, List.mem_of_getElem? (i := 549) (by decide +kernel), List.mem_of_getElem? (i := 893) (by decide +kernel), List.mem_of_getElem? (i := 894) (by decide +kernel)⟩
theorem lw_p55 : lw_okq (⟨"DiagramBenchModel", "leastOf", "(IZ)I"⟩, 35) := ⟨⟨by decide +kernel, by decide +kernel⟩, List.mem_of_getElem? (i := 549) (by decide +kernel), List.mem_of_getElem? (i := 909) (by decide +kernel), List.mem_of_getElem? (i := 910) (by decide +kernel)⟩
theorem lw_p56 : lw_okq (⟨"DiagramBenchModel", "assignmentAt", "(I)I"⟩, 35) := ⟨⟨by decide +kernel, by decide +kernel⟩, List.mem_of_getElem? (i := 549) (by decide +kernel), List.mem_of_getElem? (i := 913) (by decide +kernel), List.mem_of_getElem? (i := 914) (by decide +kernel)⟩
def lw_privs_4 : List (MethodName × Nat) := [(⟨"DiagramBenchModel", "isFunction", "(I)Z"⟩, 35), (⟨"DiagramBenchModel", "noHalf", "(III)I"⟩, 35), (⟨"DiagramBenchModel", "makeHalf", "(IIIZ)V"⟩, 35), (⟨"DiagramBenchModel", "halves", "(II)Z"⟩, 35), (⟨"DiagramBenchModel", "stands", "(I)I"⟩, 35), (⟨"DiagramBenchModel", "bit", "(II)Z"⟩, 35), (⟨"DiagramBenchModel", "hangs", "(II)Z"⟩, 35), (⟨"DiagramBenchModel", "leastOf", "(IZ)I"⟩, 35), (⟨"DiagramBenchModel", "assignmentAt", "(I)I"⟩, 35)]
theorem lw_r4 : ∀ q ∈ lw_privs_4, lw_okq q := List.forall_mem_cons.mpr ⟨lw_p48, List.forall_mem_cons.mpr ⟨lw_p49, List.forall_mem_cons.mpr ⟨lw_p50, List.forall_mem_cons.mpr ⟨lw_p51, List.forall_mem_cons.mpr ⟨lw_p52, List.forall_mem_cons.mpr ⟨lw_p53, List.forall_mem_cons.mpr ⟨lw_p54, List.forall_mem_cons.mpr ⟨lw_p55, List.forall_mem_cons.mpr ⟨lw_p56, fun _ h => absurd h List.not_mem_nil⟩⟩⟩⟩⟩⟩⟩⟩⟩
def lw_privs : List (MethodName × Nat) := lw_privs_1 ++ (lw_privs_2 ++ (lw_privs_3 ++ (lw_privs_4)))
def lw_tbl : List Cond := k2_sels lw_privs ++ tables_1
theorem lw_privs_ok : ∀ q ∈ lw_privs, lw_okq q := by
  show ∀ q ∈ lw_privs_1 ++ (lw_privs_2 ++ (lw_privs_3 ++ (lw_privs_4))), lw_okq q
  exact List.forall_mem_append.mpr ⟨lw_r1, List.forall_mem_append.mpr ⟨lw_r2, List.forall_mem_append.mpr ⟨lw_r3, lw_r4⟩⟩⟩
-- ===== end of PART A; then your names; then what follows =====
end
section
/-! ===== BEGIN words of one list among another's, by their places ===== -/
theorem goodIn_r {big : List Cond} (ws : List Cond) (ps : List Nat) (hp : ws = ps.filterMap (fun i => big[i]?)) (h : ws.all goodWord = true) : GoodIn big ws := by
  intro w hw
  have h1 := List.all_eq_true.mp h w hw
  rw [hp] at hw
  obtain ⟨i, -, hi⟩ := List.mem_filterMap.mp hw
  have hm : w ∈ big := by first | exact List.mem_of_getElem? hi | exact List.getElem?_mem hi
  exact ⟨hm, good_of_word h1⟩
theorem goodIn_app {big a b : List Cond} (ha : GoodIn big a) (hb : GoodIn big b) : GoodIn big (a ++ b) := fun w h => (List.mem_append.mp h).elim (ha w) (hb w)
theorem goodIn_ca {big a b : List Cond} {c : Cond} (ha : GoodIn big (c :: a)) (hb : GoodIn big b) : GoodIn big (c :: (a ++ b)) := fun w h => (List.mem_cons.mp h).elim (fun e => ha w (List.mem_cons.mpr (Or.inl e))) (fun h => (List.mem_append.mp h).elim (fun h => ha w (List.mem_cons.mpr (Or.inr h))) (hb w))
theorem goodIn_sub {big ws : List Cond} (hm : ∀ w ∈ ws, w ∈ big) (h : ws.all goodWord = true) : GoodIn big ws := fun w hw => ⟨hm w hw, good_of_word (List.all_eq_true.mp h w hw)⟩
/-! ===== END ===== -/

/-! ===== BEGIN printed: names, fields, word lists, decode rows ===== -/
def RX0 : String := "DiagramBench$Net"
def TX0 : u_T := fun k => match k with
  | 0 => ("DiagramBench$Net", "kinds", "[I", true)
  | 1 => ("DiagramBench$Net", "operands", "[I", true)
  | 2 => ("DiagramBench$Net", "outputGates", "[I", true)
  | 3 => ("DiagramBench$Net", "ofGates", "[I", true)
  | 4 => ("DiagramBench$Net", "gates", "I", false)
  | _ => ("DiagramBench$Net", "outputs", "I", false)
def tyX0 : Nat → FieldType := fun k => match k with
  | 0 => .array .int
  | 1 => .array .int
  | 2 => .array .int
  | 3 => .array .int
  | 4 => .int
  | _ => .int
abbrev wsX00 : List Cond := u_ws RX0 TX0 6
theorem nmX0 : ∀ a, a < 6 → ∀ b, b < 6 → a ≠ b → (TX0 a).2.1 ≠ (TX0 b).2.1 := by decide +kernel
theorem tyX0_ok : ∀ k, k < 6 → parseFieldDescriptor (TX0 k).2.2.1 = some (tyX0 k) := by decide +kernel
abbrev cX0_init : ByteArray := prog_2_method_1_code
def yX0_init : MethodName := ⟨RX0, "<init>", "()V"⟩
abbrev cX0_gateCount : ByteArray := prog_2_method_2_code
def yX0_gateCount : MethodName := ⟨RX0, "gateCount", "()I"⟩
abbrev cX0_outputCount : ByteArray := prog_2_method_3_code
def yX0_outputCount : MethodName := ⟨RX0, "outputCount", "()I"⟩
abbrev cX0_hasGate : ByteArray := prog_2_method_4_code
def yX0_hasGate : MethodName := ⟨RX0, "hasGate", "(I)Z"⟩
abbrev cX0_hasOutput : ByteArray := prog_2_method_5_code
def yX0_hasOutput : MethodName := ⟨RX0, "hasOutput", "(I)Z"⟩
abbrev cX0_hasOperands : ByteArray := prog_2_method_6_code
def yX0_hasOperands : MethodName := ⟨RX0, "hasOperands", "(IIII)Z"⟩
abbrev cX0_addGate : ByteArray := prog_2_method_7_code
def yX0_addGate : MethodName := ⟨RX0, "addGate", "(IIII)I"⟩
abbrev cX0_addOutput : ByteArray := prog_2_method_8_code
def yX0_addOutput : MethodName := ⟨RX0, "addOutput", "(I)I"⟩
abbrev cX0_empty : ByteArray := prog_2_method_9_code
def yX0_empty : MethodName := ⟨RX0, "empty", "()I"⟩
abbrev cX0_kindOf : ByteArray := prog_2_method_10_code
def yX0_kindOf : MethodName := ⟨RX0, "kindOf", "(I)I"⟩
abbrev cX0_operand : ByteArray := prog_2_method_11_code
def yX0_operand : MethodName := ⟨RX0, "operand", "(II)I"⟩
abbrev cX0_outputValue : ByteArray := prog_2_method_12_code
def yX0_outputValue : MethodName := ⟨RX0, "outputValue", "(II)I"⟩
abbrev cX0_gateValue : ByteArray := prog_2_method_13_code
def yX0_gateValue : MethodName := ⟨RX0, "gateValue", "(II)I"⟩
abbrev cX0_findNeeds : ByteArray := prog_2_method_14_code
def yX0_findNeeds : MethodName := ⟨RX0, "findNeeds", "(I[I)I"⟩
abbrev cX0_noteNeedsOf : ByteArray := prog_2_method_15_code
def yX0_noteNeedsOf : MethodName := ⟨RX0, "noteNeedsOf", "(I[I)V"⟩
abbrev cX0_meetVariables : ByteArray := prog_2_method_16_code
def yX0_meetVariables : MethodName := ⟨RX0, "meetVariables", "(LDiagramBench$Order;)V"⟩
abbrev cX0_goInto : ByteArray := prog_2_method_17_code
def yX0_goInto : MethodName := ⟨RX0, "goInto", "(ILDiagramBench$Order;I)V"⟩
def RX1 : String := "DiagramBench$Order"
def TX1 : u_T := fun k => match k with
  | 0 => ("DiagramBench$Order", "variables", "[I", true)
  | 1 => ("DiagramBench$Order", "placesOf", "[I", true)
  | _ => ("DiagramBench$Order", "met", "I", false)
def tyX1 : Nat → FieldType := fun k => match k with
  | 0 => .array .int
  | 1 => .array .int
  | _ => .int
abbrev wsX10 : List Cond := u_ws RX1 TX1 3
theorem nmX1 : ∀ a, a < 3 → ∀ b, b < 3 → a ≠ b → (TX1 a).2.1 ≠ (TX1 b).2.1 := by decide +kernel
theorem tyX1_ok : ∀ k, k < 3 → parseFieldDescriptor (TX1 k).2.2.1 = some (tyX1 k) := by decide +kernel
abbrev cX1_init : ByteArray := prog_3_method_1_code
def yX1_init : MethodName := ⟨RX1, "<init>", "()V"⟩
abbrev cX1_variableAt : ByteArray := prog_3_method_2_code
def yX1_variableAt : MethodName := ⟨RX1, "variableAt", "(I)I"⟩
abbrev cX1_placeOf : ByteArray := prog_3_method_3_code
def yX1_placeOf : MethodName := ⟨RX1, "placeOf", "(I)I"⟩
abbrev cX1_forget : ByteArray := prog_3_method_4_code
def yX1_forget : MethodName := ⟨RX1, "forget", "()V"⟩
abbrev cX1_meet : ByteArray := prog_3_method_5_code
def yX1_meet : MethodName := ⟨RX1, "meet", "(I)V"⟩
abbrev cX1_meetOthers : ByteArray := prog_3_method_6_code
def yX1_meetOthers : MethodName := ⟨RX1, "meetOthers", "()I"⟩
abbrev cX1_moveTo : ByteArray := prog_3_method_7_code
def yX1_moveTo : MethodName := ⟨RX1, "moveTo", "(II)I"⟩
abbrev cX1_put : ByteArray := prog_3_method_8_code
def yX1_put : MethodName := ⟨RX1, "put", "(II)V"⟩
def RX2 : String := "DiagramBench$Pool"
def TX2 : u_T := fun k => match k with
  | 0 => ("DiagramBench$Pool", "places", "[I", true)
  | 1 => ("DiagramBench$Pool", "lows", "[I", true)
  | 2 => ("DiagramBench$Pool", "highs", "[I", true)
  | 3 => ("DiagramBench$Pool", "marks", "[I", true)
  | 4 => ("DiagramBench$Pool", "next", "[I", true)
  | 5 => ("DiagramBench$Pool", "rows", "[I", true)
  | 6 => ("DiagramBench$Pool", "firstFree", "I", false)
  | 7 => ("DiagramBench$Pool", "used", "I", false)
  | _ => ("DiagramBench$Pool", "most", "I", false)
def tyX2 : Nat → FieldType := fun k => match k with
  | 0 => .array .int
  | 1 => .array .int
  | 2 => .array .int
  | 3 => .array .int
  | 4 => .array .int
  | 5 => .array .int
  | 6 => .int
  | 7 => .int
  | _ => .int
abbrev wsX20 : List Cond := u_ws RX2 TX2 9
theorem nmX2 : ∀ a, a < 9 → ∀ b, b < 9 → a ≠ b → (TX2 a).2.1 ≠ (TX2 b).2.1 := by decide +kernel
theorem tyX2_ok : ∀ k, k < 9 → parseFieldDescriptor (TX2 k).2.2.1 = some (tyX2 k) := by decide +kernel
abbrev cX2_init : ByteArray := prog_4_method_1_code
def yX2_init : MethodName := ⟨RX2, "<init>", "()V"⟩
abbrev cX2_limit : ByteArray := prog_4_method_2_code
def yX2_limit : MethodName := ⟨RX2, "limit", "()I"⟩
abbrev cX2_changeLimit : ByteArray := prog_4_method_3_code
def yX2_changeLimit : MethodName := ⟨RX2, "changeLimit", "(I)I"⟩
abbrev cX2_usedCount : ByteArray := prog_4_method_4_code
def yX2_usedCount : MethodName := ⟨RX2, "usedCount", "()I"⟩
abbrev cX2_placeOf : ByteArray := prog_4_method_5_code
def yX2_placeOf : MethodName := ⟨RX2, "placeOf", "(I)I"⟩
abbrev cX2_unmark : ByteArray := prog_4_method_6_code
def yX2_unmark : MethodName := ⟨RX2, "unmark", "()V"⟩
abbrev cX2_mark : ByteArray := prog_4_method_7_code
def yX2_mark : MethodName := ⟨RX2, "mark", "(I)V"⟩
abbrev cX2_markWith : ByteArray := prog_4_method_8_code
def yX2_markWith : MethodName := ⟨RX2, "markWith", "(III)V"⟩
abbrev cX2_markedWith : ByteArray := prog_4_method_9_code
def yX2_markedWith : MethodName := ⟨RX2, "markedWith", "(I)I"⟩
abbrev cX2_nodeCount : ByteArray := prog_4_method_10_code
def yX2_nodeCount : MethodName := ⟨RX2, "nodeCount", "(I)I"⟩
abbrev cX2_nodeCountAt : ByteArray := prog_4_method_11_code
def yX2_nodeCountAt : MethodName := ⟨RX2, "nodeCountAt", "(II)I"⟩
abbrev cX2_commonCount : ByteArray := prog_4_method_12_code
def yX2_commonCount : MethodName := ⟨RX2, "commonCount", "(II)I"⟩
abbrev cX2_sweep : ByteArray := prog_4_method_13_code
def yX2_sweep : MethodName := ⟨RX2, "sweep", "()V"⟩
abbrev cX2_makeVariable : ByteArray := prog_4_method_14_code
def yX2_makeVariable : MethodName := ⟨RX2, "makeVariable", "(I)I"⟩
abbrev cX2_make : ByteArray := prog_4_method_15_code
def yX2_make : MethodName := ⟨RX2, "make", "(IIII)I"⟩
abbrev cX2_makeFrom : ByteArray := prog_4_method_16_code
def yX2_makeFrom : MethodName := ⟨RX2, "makeFrom", "(IIIII)I"⟩
abbrev cX2_knowing : ByteArray := prog_4_method_17_code
def yX2_knowing : MethodName := ⟨RX2, "knowing", "(IIII)I"⟩
abbrev cX2_lowAt : ByteArray := prog_4_method_18_code
def yX2_lowAt : MethodName := ⟨RX2, "lowAt", "(II)I"⟩
abbrev cX2_highAt : ByteArray := prog_4_method_19_code
def yX2_highAt : MethodName := ⟨RX2, "highAt", "(II)I"⟩
abbrev cX2_makeFixed : ByteArray := prog_4_method_20_code
def yX2_makeFixed : MethodName := ⟨RX2, "makeFixed", "(IIZ)I"⟩
abbrev cX2_fixFrom : ByteArray := prog_4_method_21_code
def yX2_fixFrom : MethodName := ⟨RX2, "fixFrom", "(IIZI)I"⟩
abbrev cX2_nodeFor : ByteArray := prog_4_method_22_code
def yX2_nodeFor : MethodName := ⟨RX2, "nodeFor", "(III)I"⟩
abbrev cX2_enter : ByteArray := prog_4_method_23_code
def yX2_enter : MethodName := ⟨RX2, "enter", "(I)V"⟩
abbrev cX2_valueFor : ByteArray := prog_4_method_24_code
def yX2_valueFor : MethodName := ⟨RX2, "valueFor", "(IILDiagramBench$Order;)I"⟩
abbrev cX2_leastFor : ByteArray := prog_4_method_25_code
def yX2_leastFor : MethodName := ⟨RX2, "leastFor", "(IILDiagramBench$Order;)I"⟩
abbrev cX2_pathCount : ByteArray := prog_4_method_26_code
def yX2_pathCount : MethodName := ⟨RX2, "pathCount", "(II)I"⟩
abbrev cX2_pathsFrom : ByteArray := prog_4_method_27_code
def yX2_pathsFrom : MethodName := ⟨RX2, "pathsFrom", "(III)I"⟩
def RX3 : String := "DiagramBench"
def TX3 : u_T := fun k => match k with
  | 0 => ("DiagramBench", "nets", "[LDiagramBench$Net;", true)
  | 1 => ("DiagramBench", "places", "LDiagramBench$Order;", true)
  | 2 => ("DiagramBench", "pool", "LDiagramBench$Pool;", true)
  | 3 => ("DiagramBench", "held", "[I", true)
  | 4 => ("DiagramBench", "ofGate", "[I", true)
  | 5 => ("DiagramBench", "lastNeed", "[I", true)
  | 6 => ("DiagramBench", "kept", "[I", true)
  | 7 => ("DiagramBench", "keptCount", "I", false)
  | 8 => ("DiagramBench", "mostInUse", "I", false)
  | 9 => ("DiagramBench", "partedOutput", "I", false)
  | _ => ("DiagramBench", "partedAssignment", "I", false)
def tyX3 : Nat → FieldType := fun k => match k with
  | 0 => .array (.object "DiagramBench$Net")
  | 1 => .object "DiagramBench$Order"
  | 2 => .object "DiagramBench$Pool"
  | 3 => .array .int
  | 4 => .array .int
  | 5 => .array .int
  | 6 => .array .int
  | 7 => .int
  | 8 => .int
  | 9 => .int
  | _ => .int
abbrev wsX30 : List Cond := u_ws RX3 TX3 11
theorem nmX3 : ∀ a, a < 11 → ∀ b, b < 11 → a ≠ b → (TX3 a).2.1 ≠ (TX3 b).2.1 := by decide +kernel
theorem tyX3_ok : ∀ k, k < 11 → parseFieldDescriptor (TX3 k).2.2.1 = some (tyX3 k) := by decide +kernel
abbrev cX3_init : ByteArray := prog_1_method_1_code
def yX3_init : MethodName := ⟨RX3, "<init>", "()V"⟩
abbrev cX3_gate : ByteArray := prog_1_method_2_code
def yX3_gate : MethodName := ⟨RX3, "gate", "(IIIII)I"⟩
abbrev cX3_output : ByteArray := prog_1_method_3_code
def yX3_output : MethodName := ⟨RX3, "output", "(II)I"⟩
abbrev cX3_clear : ByteArray := prog_1_method_4_code
def yX3_clear : MethodName := ⟨RX3, "clear", "(I)I"⟩
abbrev cX3_gives : ByteArray := prog_1_method_5_code
def yX3_gives : MethodName := ⟨RX3, "gives", "(III)I"⟩
abbrev cX3_order : ByteArray := prog_1_method_6_code
def yX3_order : MethodName := ⟨RX3, "order", "(I)I"⟩
abbrev cX3_move : ByteArray := prog_1_method_7_code
def yX3_move : MethodName := ⟨RX3, "move", "(II)I"⟩
abbrev cX3_at : ByteArray := prog_1_method_8_code
def yX3_at : MethodName := ⟨RX3, "at", "(I)I"⟩
abbrev cX3_room : ByteArray := prog_1_method_9_code
def yX3_room : MethodName := ⟨RX3, "room", "(I)I"⟩
abbrev cX3_build : ByteArray := prog_1_method_10_code
def yX3_build : MethodName := ⟨RX3, "build", "(III)I"⟩
abbrev cX3_variable : ByteArray := prog_1_method_11_code
def yX3_variable : MethodName := ⟨RX3, "variable", "(II)I"⟩
abbrev cX3_combine : ByteArray := prog_1_method_12_code
def yX3_combine : MethodName := ⟨RX3, "combine", "(IIII)I"⟩
abbrev cX3_choose : ByteArray := prog_1_method_13_code
def yX3_choose : MethodName := ⟨RX3, "choose", "(IIII)I"⟩
abbrev cX3_restrict : ByteArray := prog_1_method_14_code
def yX3_restrict : MethodName := ⟨RX3, "restrict", "(IIIZ)I"⟩
abbrev cX3_quantify : ByteArray := prog_1_method_15_code
def yX3_quantify : MethodName := ⟨RX3, "quantify", "(IIIZ)I"⟩
abbrev cX3_compose : ByteArray := prog_1_method_16_code
def yX3_compose : MethodName := ⟨RX3, "compose", "(IIII)I"⟩
abbrev cX3_share : ByteArray := prog_1_method_17_code
def yX3_share : MethodName := ⟨RX3, "share", "(II)I"⟩
abbrev cX3_drop : ByteArray := prog_1_method_18_code
def yX3_drop : MethodName := ⟨RX3, "drop", "(I)I"⟩
abbrev cX3_nodes : ByteArray := prog_1_method_19_code
def yX3_nodes : MethodName := ⟨RX3, "nodes", "(I)I"⟩
abbrev cX3_inUse : ByteArray := prog_1_method_20_code
def yX3_inUse : MethodName := ⟨RX3, "inUse", "()I"⟩
abbrev cX3_common : ByteArray := prog_1_method_21_code
def yX3_common : MethodName := ⟨RX3, "common", "(II)I"⟩
abbrev cX3_peak : ByteArray := prog_1_method_22_code
def yX3_peak : MethodName := ⟨RX3, "peak", "()I"⟩
abbrev cX3_value : ByteArray := prog_1_method_23_code
def yX3_value : MethodName := ⟨RX3, "value", "(II)I"⟩
abbrev cX3_same : ByteArray := prog_1_method_24_code
def yX3_same : MethodName := ⟨RX3, "same", "(II)I"⟩
abbrev cX3_count : ByteArray := prog_1_method_25_code
def yX3_count : MethodName := ⟨RX3, "count", "(I)I"⟩
abbrev cX3_support : ByteArray := prog_1_method_26_code
def yX3_support : MethodName := ⟨RX3, "support", "(I)I"⟩
abbrev cX3_top : ByteArray := prog_1_method_27_code
def yX3_top : MethodName := ⟨RX3, "top", "(I)I"⟩
abbrev cX3_level : ByteArray := prog_1_method_28_code
def yX3_level : MethodName := ⟨RX3, "level", "(II)I"⟩
abbrev cX3_least : ByteArray := prog_1_method_29_code
def yX3_least : MethodName := ⟨RX3, "least", "(IZ)I"⟩
abbrev cX3_paths : ByteArray := prog_1_method_30_code
def yX3_paths : MethodName := ⟨RX3, "paths", "(IZ)I"⟩
abbrev cX3_equal : ByteArray := prog_1_method_31_code
def yX3_equal : MethodName := ⟨RX3, "equal", "(II)I"⟩
abbrev cX3_parting : ByteArray := prog_1_method_32_code
def yX3_parting : MethodName := ⟨RX3, "parting", "(I)I"⟩
abbrev cX3_told : ByteArray := prog_1_method_33_code
def yX3_told : MethodName := ⟨RX3, "told", "(I)I"⟩
abbrev cX3_isNet : ByteArray := prog_1_method_34_code
def yX3_isNet : MethodName := ⟨RX3, "isNet", "(I)Z"⟩
abbrev cX3_isVariable : ByteArray := prog_1_method_35_code
def yX3_isVariable : MethodName := ⟨RX3, "isVariable", "(I)Z"⟩
abbrev cX3_isAssignment : ByteArray := prog_1_method_36_code
def yX3_isAssignment : MethodName := ⟨RX3, "isAssignment", "(I)Z"⟩
abbrev cX3_isHandle : ByteArray := prog_1_method_37_code
def yX3_isHandle : MethodName := ⟨RX3, "isHandle", "(I)Z"⟩
abbrev cX3_hasFunction : ByteArray := prog_1_method_38_code
def yX3_hasFunction : MethodName := ⟨RX3, "hasFunction", "(I)Z"⟩
abbrev cX3_heldCount : ByteArray := prog_1_method_39_code
def yX3_heldCount : MethodName := ⟨RX3, "heldCount", "()I"⟩
abbrev cX3_beginSteps : ByteArray := prog_1_method_40_code
def yX3_beginSteps : MethodName := ⟨RX3, "beginSteps", "()V"⟩
abbrev cX3_endSteps : ByteArray := prog_1_method_41_code
def yX3_endSteps : MethodName := ⟨RX3, "endSteps", "()V"⟩
abbrev cX3_give : ByteArray := prog_1_method_42_code
def yX3_give : MethodName := ⟨RX3, "give", "(II)I"⟩
abbrev cX3_keep : ByteArray := prog_1_method_43_code
def yX3_keep : MethodName := ⟨RX3, "keep", "(I)I"⟩
abbrev cX3_kindStep : ByteArray := prog_1_method_44_code
def yX3_kindStep : MethodName := ⟨RX3, "kindStep", "(IIII)I"⟩
abbrev cX3_variableStep : ByteArray := prog_1_method_45_code
def yX3_variableStep : MethodName := ⟨RX3, "variableStep", "(I)I"⟩
abbrev cX3_fixStep : ByteArray := prog_1_method_46_code
def yX3_fixStep : MethodName := ⟨RX3, "fixStep", "(IIZ)I"⟩
abbrev cX3_measured : ByteArray := prog_1_method_47_code
def yX3_measured : MethodName := ⟨RX3, "measured", "(I)I"⟩
abbrev cX3_collect : ByteArray := prog_1_method_48_code
def yX3_collect : MethodName := ⟨RX3, "collect", "()V"⟩
abbrev cX3_building : ByteArray := prog_1_method_49_code
def yX3_building : MethodName := ⟨RX3, "building", "(LDiagramBench$Net;I)I"⟩
abbrev cX3_madeFor : ByteArray := prog_1_method_50_code
def yX3_madeFor : MethodName := ⟨RX3, "madeFor", "(LDiagramBench$Net;II)I"⟩
abbrev cX3_letGoBehind : ByteArray := prog_1_method_51_code
def yX3_letGoBehind : MethodName := ⟨RX3, "letGoBehind", "(LDiagramBench$Net;I)V"⟩
abbrev cX3_notePart : ByteArray := prog_1_method_52_code
def yX3_notePart : MethodName := ⟨RX3, "notePart", "(II)V"⟩
def RX4 : String := "DiagramBenchModel"
def TX4 : u_T := fun k => match k with
  | 0 => ("DiagramBenchModel", "gates", "[I", true)
  | 1 => ("DiagramBenchModel", "outputs", "[I", true)
  | 2 => ("DiagramBenchModel", "kind", "[I", true)
  | 3 => ("DiagramBenchModel", "of", "[I", true)
  | 4 => ("DiagramBenchModel", "outputAt", "[I", true)
  | 5 => ("DiagramBenchModel", "on", "[Z", true)
  | 6 => ("DiagramBenchModel", "order", "[I", true)
  | 7 => ("DiagramBenchModel", "placeOf", "[I", true)
  | 8 => ("DiagramBenchModel", "room", "I", false)
  | 9 => ("DiagramBenchModel", "seen", "[Z", true)
  | 10 => ("DiagramBenchModel", "pile", "[I", true)
  | 11 => ("DiagramBenchModel", "child", "[I", true)
  | 12 => ("DiagramBenchModel", "piled", "I", false)
  | 13 => ("DiagramBenchModel", "found", "I", false)
  | 14 => ("DiagramBenchModel", "has", "[Z", true)
  | 15 => ("DiagramBenchModel", "bits", "[J", true)
  | 16 => ("DiagramBenchModel", "nodeMany", "[I", true)
  | 17 => ("DiagramBenchModel", "nodeOf", "[I", true)
  | 18 => ("DiagramBenchModel", "depth", "[I", true)
  | 19 => ("DiagramBenchModel", "key", "[J", true)
  | 20 => ("DiagramBenchModel", "held", "[I", true)
  | 21 => ("DiagramBenchModel", "next", "[I", true)
  | 22 => ("DiagramBenchModel", "head", "[I", true)
  | 23 => ("DiagramBenchModel", "free", "I", false)
  | 24 => ("DiagramBenchModel", "using", "I", false)
  | 25 => ("DiagramBenchModel", "peak", "I", false)
  | 26 => ("DiagramBenchModel", "mark", "[I", true)
  | 27 => ("DiagramBenchModel", "marked", "I", false)
  | 28 => ("DiagramBenchModel", "part", "[J", true)
  | 29 => ("DiagramBenchModel", "where", "[J", true)
  | 30 => ("DiagramBenchModel", "needed", "[Z", true)
  | 31 => ("DiagramBenchModel", "lastNeed", "[I", true)
  | 32 => ("DiagramBenchModel", "ways", "[I", true)
  | 33 => ("DiagramBenchModel", "parted", "I", false)
  | _ => ("DiagramBenchModel", "parting", "I", false)
def tyX4 : Nat → FieldType := fun k => match k with
  | 0 => .array .int
  | 1 => .array .int
  | 2 => .array .int
  | 3 => .array .int
  | 4 => .array .int
  | 5 => .array .boolean
  | 6 => .array .int
  | 7 => .array .int
  | 8 => .int
  | 9 => .array .boolean
  | 10 => .array .int
  | 11 => .array .int
  | 12 => .int
  | 13 => .int
  | 14 => .array .boolean
  | 15 => .array .long
  | 16 => .array .int
  | 17 => .array .int
  | 18 => .array .int
  | 19 => .array .long
  | 20 => .array .int
  | 21 => .array .int
  | 22 => .array .int
  | 23 => .int
  | 24 => .int
  | 25 => .int
  | 26 => .array .int
  | 27 => .int
  | 28 => .array .long
  | 29 => .array .long
  | 30 => .array .boolean
  | 31 => .array .int
  | 32 => .array .int
  | 33 => .int
  | _ => .int
abbrev wsX40 : List Cond := u_ws RX4 TX4 35
theorem nmX4 : ∀ a, a < 35 → ∀ b, b < 35 → a ≠ b → (TX4 a).2.1 ≠ (TX4 b).2.1 := by decide +kernel
theorem tyX4_ok : ∀ k, k < 35 → parseFieldDescriptor (TX4 k).2.2.1 = some (tyX4 k) := by decide +kernel
abbrev cX4_init : ByteArray := prog_6_method_1_code
def yX4_init : MethodName := ⟨RX4, "<init>", "()V"⟩
abbrev cX4_in : ByteArray := prog_6_method_2_code
def yX4_in : MethodName := ⟨RX4, "in", "(III)Z"⟩
abbrev cX4_isNet : ByteArray := prog_6_method_3_code
def yX4_isNet : MethodName := ⟨RX4, "isNet", "(I)Z"⟩
abbrev cX4_isGate : ByteArray := prog_6_method_4_code
def yX4_isGate : MethodName := ⟨RX4, "isGate", "(II)Z"⟩
abbrev cX4_isOutput : ByteArray := prog_6_method_5_code
def yX4_isOutput : MethodName := ⟨RX4, "isOutput", "(II)Z"⟩
abbrev cX4_wants : ByteArray := prog_6_method_6_code
def yX4_wants : MethodName := ⟨RX4, "wants", "(I)I"⟩
abbrev cX4_gate : ByteArray := prog_6_method_7_code
def yX4_gate : MethodName := ⟨RX4, "gate", "(IIIII)I"⟩
abbrev cX4_output : ByteArray := prog_6_method_8_code
def yX4_output : MethodName := ⟨RX4, "output", "(II)I"⟩
abbrev cX4_clear : ByteArray := prog_6_method_9_code
def yX4_clear : MethodName := ⟨RX4, "clear", "(I)I"⟩
abbrev cX4_combined : ByteArray := prog_6_method_10_code
def yX4_combined : MethodName := ⟨RX4, "combined", "(IZZ)Z"⟩
abbrev cX4_gives : ByteArray := prog_6_method_11_code
def yX4_gives : MethodName := ⟨RX4, "gives", "(III)I"⟩
abbrev cX4_isEmpty : ByteArray := prog_6_method_12_code
def yX4_isEmpty : MethodName := ⟨RX4, "isEmpty", "()Z"⟩
abbrev cX4_go : ByteArray := prog_6_method_13_code
def yX4_go : MethodName := ⟨RX4, "go", "(II)V"⟩
abbrev cX4_order : ByteArray := prog_6_method_14_code
def yX4_order : MethodName := ⟨RX4, "order", "(I)I"⟩
abbrev cX4_move : ByteArray := prog_6_method_15_code
def yX4_move : MethodName := ⟨RX4, "move", "(II)I"⟩
abbrev cX4_at : ByteArray := prog_6_method_16_code
def yX4_at : MethodName := ⟨RX4, "at", "(I)I"⟩
abbrev cX4_room : ByteArray := prog_6_method_17_code
def yX4_room : MethodName := ⟨RX4, "room", "(I)I"⟩
abbrev cX4_bit : ByteArray := prog_6_method_18_code
def yX4_bit : MethodName := ⟨RX4, "bit", "(II)Z"⟩
abbrev cX4_lays : ByteArray := prog_6_method_19_code
def yX4_lays : MethodName := ⟨RX4, "lays", "(III)Z"⟩
abbrev cX4_bucket : ByteArray := prog_6_method_20_code
def yX4_bucket : MethodName := ⟨RX4, "bucket", "(I)I"⟩
abbrev cX4_nodeFor : ByteArray := prog_6_method_21_code
def yX4_nodeFor : MethodName := ⟨RX4, "nodeFor", "(I)I"⟩
abbrev cX4_unlink : ByteArray := prog_6_method_22_code
def yX4_unlink : MethodName := ⟨RX4, "unlink", "(I)V"⟩
abbrev cX4_add : ByteArray := prog_6_method_23_code
def yX4_add : MethodName := ⟨RX4, "add", "(I)V"⟩
abbrev cX4_remove : ByteArray := prog_6_method_24_code
def yX4_remove : MethodName := ⟨RX4, "remove", "(I)V"⟩
abbrev cX4_steps : ByteArray := prog_6_method_25_code
def yX4_steps : MethodName := ⟨RX4, "steps", "(I)Z"⟩
abbrev cX4_clearHand : ByteArray := prog_6_method_26_code
def yX4_clearHand : MethodName := ⟨RX4, "clearHand", "()V"⟩
abbrev cX4_take : ByteArray := prog_6_method_27_code
def yX4_take : MethodName := ⟨RX4, "take", "(II)V"⟩
abbrev cX4_gets : ByteArray := prog_6_method_28_code
def yX4_gets : MethodName := ⟨RX4, "gets", "(IIZ)I"⟩
abbrev cX4_makeVariable : ByteArray := prog_6_method_29_code
def yX4_makeVariable : MethodName := ⟨RX4, "makeVariable", "(II)V"⟩
abbrev cX4_joined : ByteArray := prog_6_method_30_code
def yX4_joined : MethodName := ⟨RX4, "joined", "(IJJ)J"⟩
abbrev cX4_makeOf : ByteArray := prog_6_method_31_code
def yX4_makeOf : MethodName := ⟨RX4, "makeOf", "(IIII)V"⟩
abbrev cX4_makeChoice : ByteArray := prog_6_method_32_code
def yX4_makeChoice : MethodName := ⟨RX4, "makeChoice", "(IIII)V"⟩
abbrev cX4_makeHalf : ByteArray := prog_6_method_33_code
def yX4_makeHalf : MethodName := ⟨RX4, "makeHalf", "(IIIZ)V"⟩
abbrev cX4_needs : ByteArray := prog_6_method_34_code
def yX4_needs : MethodName := ⟨RX4, "needs", "(II)V"⟩
abbrev cX4_builds : ByteArray := prog_6_method_35_code
def yX4_builds : MethodName := ⟨RX4, "builds", "(II)Z"⟩
abbrev cX4_isHandle : ByteArray := prog_6_method_36_code
def yX4_isHandle : MethodName := ⟨RX4, "isHandle", "(I)Z"⟩
abbrev cX4_isFunction : ByteArray := prog_6_method_37_code
def yX4_isFunction : MethodName := ⟨RX4, "isFunction", "(I)Z"⟩
abbrev cX4_begin : ByteArray := prog_6_method_38_code
def yX4_begin : MethodName := ⟨RX4, "begin", "()V"⟩
abbrev cX4_build : ByteArray := prog_6_method_39_code
def yX4_build : MethodName := ⟨RX4, "build", "(III)I"⟩
abbrev cX4_variable : ByteArray := prog_6_method_40_code
def yX4_variable : MethodName := ⟨RX4, "variable", "(II)I"⟩
abbrev cX4_combine : ByteArray := prog_6_method_41_code
def yX4_combine : MethodName := ⟨RX4, "combine", "(IIII)I"⟩
abbrev cX4_choose : ByteArray := prog_6_method_42_code
def yX4_choose : MethodName := ⟨RX4, "choose", "(IIII)I"⟩
abbrev cX4_noHalf : ByteArray := prog_6_method_43_code
def yX4_noHalf : MethodName := ⟨RX4, "noHalf", "(III)I"⟩
abbrev cX4_restrict : ByteArray := prog_6_method_44_code
def yX4_restrict : MethodName := ⟨RX4, "restrict", "(IIIZ)I"⟩
abbrev cX4_halves : ByteArray := prog_6_method_45_code
def yX4_halves : MethodName := ⟨RX4, "halves", "(II)Z"⟩
abbrev cX4_quantify : ByteArray := prog_6_method_46_code
def yX4_quantify : MethodName := ⟨RX4, "quantify", "(IIIZ)I"⟩
abbrev cX4_compose : ByteArray := prog_6_method_47_code
def yX4_compose : MethodName := ⟨RX4, "compose", "(IIII)I"⟩
abbrev cX4_share : ByteArray := prog_6_method_48_code
def yX4_share : MethodName := ⟨RX4, "share", "(II)I"⟩
abbrev cX4_drop : ByteArray := prog_6_method_49_code
def yX4_drop : MethodName := ⟨RX4, "drop", "(I)I"⟩
abbrev cX4_nodes : ByteArray := prog_6_method_50_code
def yX4_nodes : MethodName := ⟨RX4, "nodes", "(I)I"⟩
abbrev cX4_inUse : ByteArray := prog_6_method_51_code
def yX4_inUse : MethodName := ⟨RX4, "inUse", "()I"⟩
abbrev cX4_common : ByteArray := prog_6_method_52_code
def yX4_common : MethodName := ⟨RX4, "common", "(II)I"⟩
abbrev cX4_peak : ByteArray := prog_6_method_53_code
def yX4_peak : MethodName := ⟨RX4, "peak", "()I"⟩
abbrev cX4_stands : ByteArray := prog_6_method_54_code
def yX4_stands : MethodName := ⟨RX4, "stands", "(I)I"⟩
abbrev cX4_assignmentAt : ByteArray := prog_6_method_55_code
def yX4_assignmentAt : MethodName := ⟨RX4, "assignmentAt", "(I)I"⟩
abbrev cX4_value : ByteArray := prog_6_method_56_code
def yX4_value : MethodName := ⟨RX4, "value", "(II)I"⟩
abbrev cX4_same : ByteArray := prog_6_method_57_code
def yX4_same : MethodName := ⟨RX4, "same", "(II)I"⟩
abbrev cX4_count : ByteArray := prog_6_method_58_code
def yX4_count : MethodName := ⟨RX4, "count", "(I)I"⟩
abbrev cX4_hangs : ByteArray := prog_6_method_59_code
def yX4_hangs : MethodName := ⟨RX4, "hangs", "(II)Z"⟩
abbrev cX4_support : ByteArray := prog_6_method_60_code
def yX4_support : MethodName := ⟨RX4, "support", "(I)I"⟩
abbrev cX4_top : ByteArray := prog_6_method_61_code
def yX4_top : MethodName := ⟨RX4, "top", "(I)I"⟩
abbrev cX4_level : ByteArray := prog_6_method_62_code
def yX4_level : MethodName := ⟨RX4, "level", "(II)I"⟩
abbrev cX4_leastOf : ByteArray := prog_6_method_63_code
def yX4_leastOf : MethodName := ⟨RX4, "leastOf", "(IZ)I"⟩
abbrev cX4_least : ByteArray := prog_6_method_64_code
def yX4_least : MethodName := ⟨RX4, "least", "(IZ)I"⟩
abbrev cX4_paths : ByteArray := prog_6_method_65_code
def yX4_paths : MethodName := ⟨RX4, "paths", "(IZ)I"⟩
abbrev cX4_equal : ByteArray := prog_6_method_66_code
def yX4_equal : MethodName := ⟨RX4, "equal", "(II)I"⟩
abbrev cX4_parting : ByteArray := prog_6_method_67_code
def yX4_parting : MethodName := ⟨RX4, "parting", "(I)I"⟩
abbrev cX4_told : ByteArray := prog_6_method_68_code
def yX4_told : MethodName := ⟨RX4, "told", "(I)I"⟩
def RJ9 : String := "java/lang/Math"
def TJ9 : u_T := fun k => match k with
  | _ => ("", "", "", false)
def tyJ9 : Nat → FieldType := fun k => match k with
  | _ => .int
abbrev wsJ90 : List Cond := u_ws RJ9 TJ9 0
theorem nmJ9 : ∀ a, a < 0 → ∀ b, b < 0 → a ≠ b → (TJ9 a).2.1 ≠ (TJ9 b).2.1 := by decide +kernel
theorem tyJ9_ok : ∀ k, k < 0 → parseFieldDescriptor (TJ9 k).2.2.1 = some (tyJ9 k) := by decide +kernel
abbrev cJ9_max_7cf53 : ByteArray := prog_7_method_65_code
def yJ9_max_7cf53 : MethodName := ⟨RJ9, "max", "(II)I"⟩
abbrev cJ9_min_7cf53 : ByteArray := prog_7_method_69_code
def yJ9_min_7cf53 : MethodName := ⟨RJ9, "min", "(II)I"⟩
def RJ7 : String := "java/util/Arrays"
def TJ7 : u_T := fun k => match k with
  | _ => ("", "", "", false)
def tyJ7 : Nat → FieldType := fun k => match k with
  | _ => .int
abbrev wsJ70 : List Cond := u_ws RJ7 TJ7 0
theorem nmJ7 : ∀ a, a < 0 → ∀ b, b < 0 → a ≠ b → (TJ7 a).2.1 ≠ (TJ7 b).2.1 := by decide +kernel
theorem tyJ7_ok : ∀ k, k < 0 → parseFieldDescriptor (TJ7 k).2.2.1 = some (tyJ7 k) := by decide +kernel
abbrev cJ7_fill_53178 : ByteArray := prog_8_method_103_code
def yJ7_fill_53178 : MethodName := ⟨RJ7, "fill", "([II)V"⟩
def RL : String := "DiagramBenchLaw"
abbrev cL_law : ByteArray := code
def yL_law : MethodName := ⟨RL, "law", "([I)Z"⟩
def wsX0_init : List Cond := .code yX0_init cX0_init 1 none :: ([.methodLink RX0 3 objectInit, .instanceMethod objectInit, .code objectInit ⟨#[0xb1]⟩ 1 none, .arrayClass .int, .fieldLink RX0 9 "DiagramBench$Net" "kinds" "[I", .fieldLink RX0 15 "DiagramBench$Net" "operands" "[I", .fieldLink RX0 18 "DiagramBench$Net" "outputGates" "[I", .fieldLink RX0 21 "DiagramBench$Net" "ofGates" "[I", .fieldLink RX0 24 "DiagramBench$Net" "gates" "I", .fieldLink RX0 28 "DiagramBench$Net" "outputs" "I"] ++ wsX00)
def wsX0_gateCount : List Cond := .code yX0_gateCount cX0_gateCount 1 (some .int) :: ([.fieldLink RX0 24 "DiagramBench$Net" "gates" "I"] ++ wsX00)
def wsX0_outputCount : List Cond := .code yX0_outputCount cX0_outputCount 1 (some .int) :: ([.fieldLink RX0 28 "DiagramBench$Net" "outputs" "I"] ++ wsX00)
def wsX0_hasGate : List Cond := .code yX0_hasGate cX0_hasGate 2 (some .boolean) :: ([.fieldLink RX0 24 "DiagramBench$Net" "gates" "I"] ++ wsX00)
def wsX0_hasOutput : List Cond := .code yX0_hasOutput cX0_hasOutput 2 (some .boolean) :: ([.fieldLink RX0 28 "DiagramBench$Net" "outputs" "I"] ++ wsX00)
def wsX0_hasOperands : List Cond := .code yX0_hasOperands cX0_hasOperands 6 (some .boolean) :: ([.methodLink RX0 34 yX0_hasGate, .instanceMethod yX0_hasGate, .selects RX0 yX0_hasGate yX0_hasGate, .initialized RX0, .code yX0_hasGate cX0_hasGate 2 (some .boolean), .fieldLink RX0 24 "DiagramBench$Net" "gates" "I"] ++ wsX00)
def wsX0_addGate : List Cond := .code yX0_addGate cX0_addGate 5 (some .int) :: ([.fieldLink RX0 24 "DiagramBench$Net" "gates" "I", .fieldLink RX0 9 "DiagramBench$Net" "kinds" "[I", .fieldLink RX0 15 "DiagramBench$Net" "operands" "[I"] ++ wsX00)
def wsX0_addOutput : List Cond := .code yX0_addOutput cX0_addOutput 2 (some .int) :: ([.fieldLink RX0 28 "DiagramBench$Net" "outputs" "I", .fieldLink RX0 18 "DiagramBench$Net" "outputGates" "[I"] ++ wsX00)
def wsX0_empty : List Cond := .code yX0_empty cX0_empty 2 (some .int) :: ([.fieldLink RX0 24 "DiagramBench$Net" "gates" "I", .fieldLink RX0 28 "DiagramBench$Net" "outputs" "I"] ++ wsX00)
def wsX0_kindOf : List Cond := .code yX0_kindOf cX0_kindOf 2 (some .int) :: ([.fieldLink RX0 9 "DiagramBench$Net" "kinds" "[I"] ++ wsX00)
def wsX0_operand : List Cond := .code yX0_operand cX0_operand 3 (some .int) :: ([.fieldLink RX0 15 "DiagramBench$Net" "operands" "[I"] ++ wsX00)
def wsX0_gateValue : List Cond := .code yX0_gateValue cX0_gateValue 6 (some .int) :: ([.fieldLink RX0 9 "DiagramBench$Net" "kinds" "[I", .fieldLink RX0 21 "DiagramBench$Net" "ofGates" "[I", .methodLink RX0 42 yX0_operand, .instanceMethod yX0_operand, .selects RX0 yX0_operand yX0_operand, .initialized RX0, .code yX0_operand cX0_operand 3 (some .int), .fieldLink RX0 15 "DiagramBench$Net" "operands" "[I"] ++ wsX00)
def wsX0_outputValue : List Cond := .code yX0_outputValue cX0_outputValue 5 (some .int) :: ([.fieldLink RX0 18 "DiagramBench$Net" "outputGates" "[I", .fieldLink RX0 21 "DiagramBench$Net" "ofGates" "[I", .methodLink RX0 38 yX0_gateValue, .instanceMethod yX0_gateValue, .selects RX0 yX0_gateValue yX0_gateValue, .initialized RX0, .code yX0_gateValue cX0_gateValue 6 (some .int), .fieldLink RX0 9 "DiagramBench$Net" "kinds" "[I", .methodLink RX0 42 yX0_operand, .instanceMethod yX0_operand, .selects RX0 yX0_operand yX0_operand, .code yX0_operand cX0_operand 3 (some .int), .fieldLink RX0 15 "DiagramBench$Net" "operands" "[I"] ++ wsX00)
def wsJ7_fill_53178 : List Cond := .code yJ7_fill_53178 cJ7_fill_53178 4 none :: ([])
def wsX0_noteNeedsOf : List Cond := .code yX0_noteNeedsOf cX0_noteNeedsOf 5 none :: ([.fieldLink RX0 9 "DiagramBench$Net" "kinds" "[I", .methodLink RX0 42 yX0_operand, .instanceMethod yX0_operand, .selects RX0 yX0_operand yX0_operand, .initialized RX0, .code yX0_operand cX0_operand 3 (some .int), .fieldLink RX0 15 "DiagramBench$Net" "operands" "[I"] ++ wsX00)
def wsX0_findNeeds : List Cond := .code yX0_findNeeds cX0_findNeeds 5 (some .int) :: ([.fieldLink RX0 18 "DiagramBench$Net" "outputGates" "[I", .methodLink RX0 48 yJ7_fill_53178, .static yJ7_fill_53178, .initialized RJ7, .code yJ7_fill_53178 cJ7_fill_53178 4 none, .methodLink RX0 54 yX0_noteNeedsOf, .instanceMethod yX0_noteNeedsOf, .selects RX0 yX0_noteNeedsOf yX0_noteNeedsOf, .initialized RX0, .code yX0_noteNeedsOf cX0_noteNeedsOf 5 none, .fieldLink RX0 9 "DiagramBench$Net" "kinds" "[I", .methodLink RX0 42 yX0_operand, .instanceMethod yX0_operand, .selects RX0 yX0_operand yX0_operand, .code yX0_operand cX0_operand 3 (some .int), .fieldLink RX0 15 "DiagramBench$Net" "operands" "[I"] ++ wsX00)
def wsX1_put : List Cond := .code yX1_put cX1_put 3 none :: ([.fieldLink RX1 9 "DiagramBench$Order" "variables" "[I", .fieldLink RX1 15 "DiagramBench$Order" "placesOf" "[I"] ++ wsX10)
def wsX1_meet : List Cond := .code yX1_meet cX1_meet 2 none :: ([.fieldLink RX1 15 "DiagramBench$Order" "placesOf" "[I", .fieldLink RX1 18 "DiagramBench$Order" "met" "I", .methodLink RX1 28 yX1_put, .instanceMethod yX1_put, .selects RX1 yX1_put yX1_put, .initialized RX1, .code yX1_put cX1_put 3 none, .fieldLink RX1 9 "DiagramBench$Order" "variables" "[I"] ++ wsX10)
def wsX0_goInto : List Cond := .code yX0_goInto cX0_goInto 5 none :: ([.fieldLink RX0 21 "DiagramBench$Net" "ofGates" "[I", .fieldLink RX0 9 "DiagramBench$Net" "kinds" "[I", .methodLink RX0 42 yX0_operand, .instanceMethod yX0_operand, .selects RX0 yX0_operand yX0_operand, .initialized RX0, .code yX0_operand cX0_operand 3 (some .int), .fieldLink RX0 15 "DiagramBench$Net" "operands" "[I", .methodLink RX0 62 yX1_meet, .instanceMethod yX1_meet, .selects RX1 yX1_meet yX1_meet, .initialized RX1, .code yX1_meet cX1_meet 2 none, .fieldLink RX1 15 "DiagramBench$Order" "placesOf" "[I", .fieldLink RX1 18 "DiagramBench$Order" "met" "I", .methodLink RX1 28 yX1_put, .instanceMethod yX1_put, .selects RX1 yX1_put yX1_put, .code yX1_put cX1_put 3 none, .fieldLink RX1 9 "DiagramBench$Order" "variables" "[I", .methodLink RX0 58 yX0_goInto, .instanceMethod yX0_goInto, .selects RX0 yX0_goInto yX0_goInto] ++ wsX00 ++ wsX10)
def wsX0_meetVariables_r1 : List Cond := [Cond.fieldLink RX0 21 "DiagramBench$Net" "ofGates" "[I", Cond.fieldLink RX0 28 "DiagramBench$Net" "outputs" "I", Cond.fieldLink RX0 18 "DiagramBench$Net" "outputGates" "[I", Cond.methodLink RX0 48 yJ7_fill_53178, Cond.static yJ7_fill_53178, Cond.initialized RJ7, Cond.code yJ7_fill_53178 cJ7_fill_53178 4 none, Cond.methodLink RX0 58 yX0_goInto, Cond.instanceMethod yX0_goInto, Cond.selects RX0 yX0_goInto yX0_goInto, Cond.initialized RX0, Cond.code yX0_goInto cX0_goInto 5 none, Cond.fieldLink RX0 9 "DiagramBench$Net" "kinds" "[I", Cond.methodLink RX0 42 yX0_operand, Cond.instanceMethod yX0_operand, Cond.selects RX0 yX0_operand yX0_operand, Cond.code yX0_operand cX0_operand 3 (some .int), Cond.fieldLink RX0 15 "DiagramBench$Net" "operands" "[I", Cond.methodLink RX0 62 yX1_meet, Cond.instanceMethod yX1_meet, Cond.selects RX1 yX1_meet yX1_meet, Cond.initialized RX1, Cond.code yX1_meet cX1_meet 2 none, Cond.fieldLink RX1 15 "DiagramBench$Order" "placesOf" "[I"]
def wsX0_meetVariables_r2 : List Cond := [Cond.fieldLink RX1 18 "DiagramBench$Order" "met" "I", Cond.methodLink RX1 28 yX1_put, Cond.instanceMethod yX1_put, Cond.selects RX1 yX1_put yX1_put, Cond.code yX1_put cX1_put 3 none, Cond.fieldLink RX1 9 "DiagramBench$Order" "variables" "[I"]
def wsX0_meetVariables : List Cond := .code yX0_meetVariables cX0_meetVariables 3 none :: ((wsX0_meetVariables_r1 ++ wsX0_meetVariables_r2) ++ wsX00 ++ wsX10)
def wsX1_init : List Cond := .code yX1_init cX1_init 2 none :: ([.methodLink RX1 3 objectInit, .instanceMethod objectInit, .code objectInit ⟨#[0xb1]⟩ 1 none, .arrayClass .int, .fieldLink RX1 9 "DiagramBench$Order" "variables" "[I", .fieldLink RX1 15 "DiagramBench$Order" "placesOf" "[I", .fieldLink RX1 18 "DiagramBench$Order" "met" "I"] ++ wsX10)
def wsX1_variableAt : List Cond := .code yX1_variableAt cX1_variableAt 2 (some .int) :: ([.fieldLink RX1 9 "DiagramBench$Order" "variables" "[I"] ++ wsX10)
def wsX1_placeOf : List Cond := .code yX1_placeOf cX1_placeOf 2 (some .int) :: ([.fieldLink RX1 15 "DiagramBench$Order" "placesOf" "[I"] ++ wsX10)
def wsX1_forget : List Cond := .code yX1_forget cX1_forget 1 none :: ([.fieldLink RX1 15 "DiagramBench$Order" "placesOf" "[I", .fieldLink RX1 18 "DiagramBench$Order" "met" "I", .methodLink RX1 22 yJ7_fill_53178, .static yJ7_fill_53178, .initialized RJ7, .code yJ7_fill_53178 cJ7_fill_53178 4 none] ++ wsX10)
def wsX1_meetOthers : List Cond := .code yX1_meetOthers cX1_meetOthers 3 (some .int) :: ([.fieldLink RX1 18 "DiagramBench$Order" "met" "I", .methodLink RX1 32 yX1_meet, .instanceMethod yX1_meet, .selects RX1 yX1_meet yX1_meet, .initialized RX1, .code yX1_meet cX1_meet 2 none, .fieldLink RX1 15 "DiagramBench$Order" "placesOf" "[I", .methodLink RX1 28 yX1_put, .instanceMethod yX1_put, .selects RX1 yX1_put yX1_put, .code yX1_put cX1_put 3 none, .fieldLink RX1 9 "DiagramBench$Order" "variables" "[I"] ++ wsX10)
def wsX1_moveTo : List Cond := .code yX1_moveTo cX1_moveTo 5 (some .int) :: ([.fieldLink RX1 15 "DiagramBench$Order" "placesOf" "[I", .fieldLink RX1 9 "DiagramBench$Order" "variables" "[I", .methodLink RX1 28 yX1_put, .instanceMethod yX1_put, .selects RX1 yX1_put yX1_put, .initialized RX1, .code yX1_put cX1_put 3 none] ++ wsX10)
def wsX2_enter : List Cond := .code yX2_enter cX2_enter 3 none :: ([.fieldLink RX2 15 "DiagramBench$Pool" "lows" "[I", .fieldLink RX2 18 "DiagramBench$Pool" "highs" "[I", .fieldLink RX2 24 "DiagramBench$Pool" "next" "[I", .fieldLink RX2 27 "DiagramBench$Pool" "rows" "[I", .fieldLink RX2 34 "DiagramBench$Pool" "used" "I"] ++ wsX20)
def wsX2_sweep : List Cond := .code yX2_sweep cX2_sweep 2 none :: ([.fieldLink RX2 27 "DiagramBench$Pool" "rows" "[I", .fieldLink RX2 30 "DiagramBench$Pool" "firstFree" "I", .fieldLink RX2 34 "DiagramBench$Pool" "used" "I", .fieldLink RX2 21 "DiagramBench$Pool" "marks" "[I", .fieldLink RX2 24 "DiagramBench$Pool" "next" "[I", .methodLink RX2 43 yJ7_fill_53178, .static yJ7_fill_53178, .initialized RJ7, .code yJ7_fill_53178 cJ7_fill_53178 4 none, .methodLink RX2 64 yX2_enter, .instanceMethod yX2_enter, .selects RX2 yX2_enter yX2_enter, .initialized RX2, .code yX2_enter cX2_enter 3 none, .fieldLink RX2 15 "DiagramBench$Pool" "lows" "[I", .fieldLink RX2 18 "DiagramBench$Pool" "highs" "[I"] ++ wsX20)
def wsX2_init_r1 : List Cond := [Cond.methodLink RX2 3 objectInit, Cond.instanceMethod objectInit, Cond.code objectInit ⟨#[0xb1]⟩ 1 none, Cond.arrayClass .int, Cond.fieldLink RX2 11 "DiagramBench$Pool" "places" "[I", Cond.fieldLink RX2 15 "DiagramBench$Pool" "lows" "[I", Cond.fieldLink RX2 18 "DiagramBench$Pool" "highs" "[I", Cond.fieldLink RX2 21 "DiagramBench$Pool" "marks" "[I", Cond.fieldLink RX2 24 "DiagramBench$Pool" "next" "[I", Cond.fieldLink RX2 27 "DiagramBench$Pool" "rows" "[I", Cond.fieldLink RX2 30 "DiagramBench$Pool" "firstFree" "I", Cond.fieldLink RX2 34 "DiagramBench$Pool" "used" "I", Cond.fieldLink RX2 37 "DiagramBench$Pool" "most" "I", Cond.methodLink RX2 40 yX2_sweep, Cond.instanceMethod yX2_sweep, Cond.selects RX2 yX2_sweep yX2_sweep, Cond.initialized RX2, Cond.code yX2_sweep cX2_sweep 2 none, Cond.methodLink RX2 43 yJ7_fill_53178, Cond.static yJ7_fill_53178, Cond.initialized RJ7, Cond.code yJ7_fill_53178 cJ7_fill_53178 4 none, Cond.methodLink RX2 64 yX2_enter, Cond.instanceMethod yX2_enter]
def wsX2_init_r2 : List Cond := [Cond.selects RX2 yX2_enter yX2_enter, Cond.code yX2_enter cX2_enter 3 none]
def wsX2_init : List Cond := .code yX2_init cX2_init 1 none :: ((wsX2_init_r1 ++ wsX2_init_r2) ++ wsX20)
def wsX2_limit : List Cond := .code yX2_limit cX2_limit 1 (some .int) :: ([.fieldLink RX2 37 "DiagramBench$Pool" "most" "I"] ++ wsX20)
def wsX2_changeLimit : List Cond := .code yX2_changeLimit cX2_changeLimit 3 (some .int) :: ([.fieldLink RX2 37 "DiagramBench$Pool" "most" "I"] ++ wsX20)
def wsX2_usedCount : List Cond := .code yX2_usedCount cX2_usedCount 1 (some .int) :: ([.fieldLink RX2 34 "DiagramBench$Pool" "used" "I"] ++ wsX20)
def wsX2_placeOf : List Cond := .code yX2_placeOf cX2_placeOf 2 (some .int) :: ([.fieldLink RX2 11 "DiagramBench$Pool" "places" "[I"] ++ wsX20)
def wsX2_unmark : List Cond := .code yX2_unmark cX2_unmark 1 none :: ([.fieldLink RX2 21 "DiagramBench$Pool" "marks" "[I", .methodLink RX2 43 yJ7_fill_53178, .static yJ7_fill_53178, .initialized RJ7, .code yJ7_fill_53178 cJ7_fill_53178 4 none] ++ wsX20)
def wsX2_markWith : List Cond := .code yX2_markWith cX2_markWith 4 none :: ([.fieldLink RX2 21 "DiagramBench$Pool" "marks" "[I", .fieldLink RX2 15 "DiagramBench$Pool" "lows" "[I", .fieldLink RX2 18 "DiagramBench$Pool" "highs" "[I", .methodLink RX2 49 yX2_markWith, .instanceMethod yX2_markWith, .selects RX2 yX2_markWith yX2_markWith, .initialized RX2] ++ wsX20)
def wsX2_mark : List Cond := .code yX2_mark cX2_mark 2 none :: ([.methodLink RX2 49 yX2_markWith, .instanceMethod yX2_markWith, .selects RX2 yX2_markWith yX2_markWith, .initialized RX2, .code yX2_markWith cX2_markWith 4 none, .fieldLink RX2 21 "DiagramBench$Pool" "marks" "[I", .fieldLink RX2 15 "DiagramBench$Pool" "lows" "[I", .fieldLink RX2 18 "DiagramBench$Pool" "highs" "[I"] ++ wsX20)
def wsX2_markedWith : List Cond := .code yX2_markedWith cX2_markedWith 4 (some .int) :: ([.fieldLink RX2 21 "DiagramBench$Pool" "marks" "[I"] ++ wsX20)
def wsX2_nodeCount : List Cond := .code yX2_nodeCount cX2_nodeCount 2 (some .int) :: ([.methodLink RX2 53 yX2_unmark, .instanceMethod yX2_unmark, .selects RX2 yX2_unmark yX2_unmark, .initialized RX2, .code yX2_unmark cX2_unmark 1 none, .fieldLink RX2 21 "DiagramBench$Pool" "marks" "[I", .methodLink RX2 43 yJ7_fill_53178, .static yJ7_fill_53178, .initialized RJ7, .code yJ7_fill_53178 cJ7_fill_53178 4 none, .methodLink RX2 56 yX2_mark, .instanceMethod yX2_mark, .selects RX2 yX2_mark yX2_mark, .code yX2_mark cX2_mark 2 none, .methodLink RX2 49 yX2_markWith, .instanceMethod yX2_markWith, .selects RX2 yX2_markWith yX2_markWith, .code yX2_markWith cX2_markWith 4 none, .fieldLink RX2 15 "DiagramBench$Pool" "lows" "[I", .fieldLink RX2 18 "DiagramBench$Pool" "highs" "[I", .methodLink RX2 60 yX2_markedWith, .instanceMethod yX2_markedWith, .selects RX2 yX2_markedWith yX2_markedWith, .code yX2_markedWith cX2_markedWith 4 (some .int)] ++ wsX20)
def wsX2_nodeCountAt : List Cond := .code yX2_nodeCountAt cX2_nodeCountAt 5 (some .int) :: ([.fieldLink RX2 21 "DiagramBench$Pool" "marks" "[I", .fieldLink RX2 11 "DiagramBench$Pool" "places" "[I", .methodLink RX2 53 yX2_unmark, .instanceMethod yX2_unmark, .selects RX2 yX2_unmark yX2_unmark, .initialized RX2, .code yX2_unmark cX2_unmark 1 none, .methodLink RX2 43 yJ7_fill_53178, .static yJ7_fill_53178, .initialized RJ7, .code yJ7_fill_53178 cJ7_fill_53178 4 none, .methodLink RX2 56 yX2_mark, .instanceMethod yX2_mark, .selects RX2 yX2_mark yX2_mark, .code yX2_mark cX2_mark 2 none, .methodLink RX2 49 yX2_markWith, .instanceMethod yX2_markWith, .selects RX2 yX2_markWith yX2_markWith, .code yX2_markWith cX2_markWith 4 none, .fieldLink RX2 15 "DiagramBench$Pool" "lows" "[I", .fieldLink RX2 18 "DiagramBench$Pool" "highs" "[I"] ++ wsX20)
def wsX2_commonCount : List Cond := .code yX2_commonCount cX2_commonCount 3 (some .int) :: ([.methodLink RX2 53 yX2_unmark, .instanceMethod yX2_unmark, .selects RX2 yX2_unmark yX2_unmark, .initialized RX2, .code yX2_unmark cX2_unmark 1 none, .fieldLink RX2 21 "DiagramBench$Pool" "marks" "[I", .methodLink RX2 43 yJ7_fill_53178, .static yJ7_fill_53178, .initialized RJ7, .code yJ7_fill_53178 cJ7_fill_53178 4 none, .methodLink RX2 49 yX2_markWith, .instanceMethod yX2_markWith, .selects RX2 yX2_markWith yX2_markWith, .code yX2_markWith cX2_markWith 4 none, .fieldLink RX2 15 "DiagramBench$Pool" "lows" "[I", .fieldLink RX2 18 "DiagramBench$Pool" "highs" "[I", .methodLink RX2 60 yX2_markedWith, .instanceMethod yX2_markedWith, .selects RX2 yX2_markedWith yX2_markedWith, .code yX2_markedWith cX2_markedWith 4 (some .int)] ++ wsX20)
def wsX2_nodeFor : List Cond := .code yX2_nodeFor cX2_nodeFor 6 (some .int) :: ([.fieldLink RX2 27 "DiagramBench$Pool" "rows" "[I", .fieldLink RX2 11 "DiagramBench$Pool" "places" "[I", .fieldLink RX2 15 "DiagramBench$Pool" "lows" "[I", .fieldLink RX2 18 "DiagramBench$Pool" "highs" "[I", .fieldLink RX2 24 "DiagramBench$Pool" "next" "[I", .fieldLink RX2 30 "DiagramBench$Pool" "firstFree" "I", .fieldLink RX2 34 "DiagramBench$Pool" "used" "I", .fieldLink RX2 37 "DiagramBench$Pool" "most" "I", .methodLink RX2 64 yX2_enter, .instanceMethod yX2_enter, .selects RX2 yX2_enter yX2_enter, .initialized RX2, .code yX2_enter cX2_enter 3 none] ++ wsX20)
def wsX2_makeVariable : List Cond := .code yX2_makeVariable cX2_makeVariable 2 (some .int) :: ([.methodLink RX2 67 yX2_nodeFor, .instanceMethod yX2_nodeFor, .selects RX2 yX2_nodeFor yX2_nodeFor, .initialized RX2, .code yX2_nodeFor cX2_nodeFor 6 (some .int), .fieldLink RX2 27 "DiagramBench$Pool" "rows" "[I", .fieldLink RX2 11 "DiagramBench$Pool" "places" "[I", .fieldLink RX2 15 "DiagramBench$Pool" "lows" "[I", .fieldLink RX2 18 "DiagramBench$Pool" "highs" "[I", .fieldLink RX2 24 "DiagramBench$Pool" "next" "[I", .fieldLink RX2 30 "DiagramBench$Pool" "firstFree" "I", .fieldLink RX2 34 "DiagramBench$Pool" "used" "I", .fieldLink RX2 37 "DiagramBench$Pool" "most" "I", .methodLink RX2 64 yX2_enter, .instanceMethod yX2_enter, .selects RX2 yX2_enter yX2_enter, .code yX2_enter cX2_enter 3 none] ++ wsX20)
def wsX2_knowing : List Cond := .code yX2_knowing cX2_knowing 5 (some .int) :: ([])
def wsX2_lowAt : List Cond := .code yX2_lowAt cX2_lowAt 3 (some .int) :: ([.fieldLink RX2 11 "DiagramBench$Pool" "places" "[I", .fieldLink RX2 15 "DiagramBench$Pool" "lows" "[I"] ++ wsX20)
def wsX2_highAt : List Cond := .code yX2_highAt cX2_highAt 3 (some .int) :: ([.fieldLink RX2 11 "DiagramBench$Pool" "places" "[I", .fieldLink RX2 18 "DiagramBench$Pool" "highs" "[I"] ++ wsX20)
def wsX2_makeFrom_r1 : List Cond := [Cond.fieldLink RX2 11 "DiagramBench$Pool" "places" "[I", Cond.methodLink RX2 79 Lib.Math.min.name, Cond.static Lib.Math.min.name, Cond.initialized "java/lang/Math", Cond.code Lib.Math.min.name Lib.Math.min.code 2 (some .int), Cond.methodLink RX2 75 yX2_knowing, Cond.static yX2_knowing, Cond.initialized RX2, Cond.code yX2_knowing cX2_knowing 5 (some .int), Cond.methodLink RX2 85 yX2_lowAt, Cond.instanceMethod yX2_lowAt, Cond.selects RX2 yX2_lowAt yX2_lowAt, Cond.code yX2_lowAt cX2_lowAt 3 (some .int), Cond.fieldLink RX2 15 "DiagramBench$Pool" "lows" "[I", Cond.methodLink RX2 71 yX2_makeFrom, Cond.instanceMethod yX2_makeFrom, Cond.selects RX2 yX2_makeFrom yX2_makeFrom, Cond.methodLink RX2 88 yX2_highAt, Cond.instanceMethod yX2_highAt, Cond.selects RX2 yX2_highAt yX2_highAt, Cond.code yX2_highAt cX2_highAt 3 (some .int), Cond.fieldLink RX2 18 "DiagramBench$Pool" "highs" "[I", Cond.methodLink RX2 67 yX2_nodeFor, Cond.instanceMethod yX2_nodeFor]
def wsX2_makeFrom_r2 : List Cond := [Cond.selects RX2 yX2_nodeFor yX2_nodeFor, Cond.code yX2_nodeFor cX2_nodeFor 6 (some .int), Cond.fieldLink RX2 27 "DiagramBench$Pool" "rows" "[I", Cond.fieldLink RX2 24 "DiagramBench$Pool" "next" "[I", Cond.fieldLink RX2 30 "DiagramBench$Pool" "firstFree" "I", Cond.fieldLink RX2 34 "DiagramBench$Pool" "used" "I", Cond.fieldLink RX2 37 "DiagramBench$Pool" "most" "I", Cond.methodLink RX2 64 yX2_enter, Cond.instanceMethod yX2_enter, Cond.selects RX2 yX2_enter yX2_enter, Cond.code yX2_enter cX2_enter 3 none]
def wsX2_makeFrom : List Cond := .code yX2_makeFrom cX2_makeFrom 10 (some .int) :: ((wsX2_makeFrom_r1 ++ wsX2_makeFrom_r2) ++ wsX20)
def wsX2_make_r1 : List Cond := [Cond.methodLink RX2 71 yX2_makeFrom, Cond.instanceMethod yX2_makeFrom, Cond.selects RX2 yX2_makeFrom yX2_makeFrom, Cond.initialized RX2, Cond.code yX2_makeFrom cX2_makeFrom 10 (some .int), Cond.fieldLink RX2 11 "DiagramBench$Pool" "places" "[I", Cond.methodLink RX2 79 Lib.Math.min.name, Cond.static Lib.Math.min.name, Cond.initialized "java/lang/Math", Cond.code Lib.Math.min.name Lib.Math.min.code 2 (some .int), Cond.methodLink RX2 75 yX2_knowing, Cond.static yX2_knowing, Cond.code yX2_knowing cX2_knowing 5 (some .int), Cond.methodLink RX2 85 yX2_lowAt, Cond.instanceMethod yX2_lowAt, Cond.selects RX2 yX2_lowAt yX2_lowAt, Cond.code yX2_lowAt cX2_lowAt 3 (some .int), Cond.fieldLink RX2 15 "DiagramBench$Pool" "lows" "[I", Cond.methodLink RX2 88 yX2_highAt, Cond.instanceMethod yX2_highAt, Cond.selects RX2 yX2_highAt yX2_highAt, Cond.code yX2_highAt cX2_highAt 3 (some .int), Cond.fieldLink RX2 18 "DiagramBench$Pool" "highs" "[I", Cond.methodLink RX2 67 yX2_nodeFor]
def wsX2_make_r2 : List Cond := [Cond.instanceMethod yX2_nodeFor, Cond.selects RX2 yX2_nodeFor yX2_nodeFor, Cond.code yX2_nodeFor cX2_nodeFor 6 (some .int), Cond.fieldLink RX2 27 "DiagramBench$Pool" "rows" "[I", Cond.fieldLink RX2 24 "DiagramBench$Pool" "next" "[I", Cond.fieldLink RX2 30 "DiagramBench$Pool" "firstFree" "I", Cond.fieldLink RX2 34 "DiagramBench$Pool" "used" "I", Cond.fieldLink RX2 37 "DiagramBench$Pool" "most" "I", Cond.methodLink RX2 64 yX2_enter, Cond.instanceMethod yX2_enter, Cond.selects RX2 yX2_enter yX2_enter, Cond.code yX2_enter cX2_enter 3 none]
def wsX2_make : List Cond := .code yX2_make cX2_make 5 (some .int) :: ((wsX2_make_r1 ++ wsX2_make_r2) ++ wsX20)
def wsX2_fixFrom : List Cond := .code yX2_fixFrom cX2_fixFrom 7 (some .int) :: ([.fieldLink RX2 11 "DiagramBench$Pool" "places" "[I", .fieldLink RX2 18 "DiagramBench$Pool" "highs" "[I", .fieldLink RX2 15 "DiagramBench$Pool" "lows" "[I", .methodLink RX2 91 yX2_fixFrom, .instanceMethod yX2_fixFrom, .selects RX2 yX2_fixFrom yX2_fixFrom, .initialized RX2, .methodLink RX2 67 yX2_nodeFor, .instanceMethod yX2_nodeFor, .selects RX2 yX2_nodeFor yX2_nodeFor, .code yX2_nodeFor cX2_nodeFor 6 (some .int), .fieldLink RX2 27 "DiagramBench$Pool" "rows" "[I", .fieldLink RX2 24 "DiagramBench$Pool" "next" "[I", .fieldLink RX2 30 "DiagramBench$Pool" "firstFree" "I", .fieldLink RX2 34 "DiagramBench$Pool" "used" "I", .fieldLink RX2 37 "DiagramBench$Pool" "most" "I", .methodLink RX2 64 yX2_enter, .instanceMethod yX2_enter, .selects RX2 yX2_enter yX2_enter, .code yX2_enter cX2_enter 3 none] ++ wsX20)
def wsX2_makeFixed : List Cond := .code yX2_makeFixed cX2_makeFixed 4 (some .int) :: ([.methodLink RX2 91 yX2_fixFrom, .instanceMethod yX2_fixFrom, .selects RX2 yX2_fixFrom yX2_fixFrom, .initialized RX2, .code yX2_fixFrom cX2_fixFrom 7 (some .int), .fieldLink RX2 11 "DiagramBench$Pool" "places" "[I", .fieldLink RX2 18 "DiagramBench$Pool" "highs" "[I", .fieldLink RX2 15 "DiagramBench$Pool" "lows" "[I", .methodLink RX2 67 yX2_nodeFor, .instanceMethod yX2_nodeFor, .selects RX2 yX2_nodeFor yX2_nodeFor, .code yX2_nodeFor cX2_nodeFor 6 (some .int), .fieldLink RX2 27 "DiagramBench$Pool" "rows" "[I", .fieldLink RX2 24 "DiagramBench$Pool" "next" "[I", .fieldLink RX2 30 "DiagramBench$Pool" "firstFree" "I", .fieldLink RX2 34 "DiagramBench$Pool" "used" "I", .fieldLink RX2 37 "DiagramBench$Pool" "most" "I", .methodLink RX2 64 yX2_enter, .instanceMethod yX2_enter, .selects RX2 yX2_enter yX2_enter, .code yX2_enter cX2_enter 3 none] ++ wsX20)
def wsX2_valueFor : List Cond := .code yX2_valueFor cX2_valueFor 7 (some .int) :: ([.fieldLink RX2 11 "DiagramBench$Pool" "places" "[I", .fieldLink RX2 18 "DiagramBench$Pool" "highs" "[I", .fieldLink RX2 15 "DiagramBench$Pool" "lows" "[I", .methodLink RX2 95 yX1_variableAt, .instanceMethod yX1_variableAt, .selects RX1 yX1_variableAt yX1_variableAt, .initialized RX1, .code yX1_variableAt cX1_variableAt 2 (some .int), .fieldLink RX1 9 "DiagramBench$Order" "variables" "[I"] ++ wsX20 ++ wsX10)
def wsX2_leastFor : List Cond := .code yX2_leastFor cX2_leastFor 7 (some .int) :: ([.fieldLink RX2 15 "DiagramBench$Pool" "lows" "[I", .fieldLink RX2 11 "DiagramBench$Pool" "places" "[I", .fieldLink RX2 18 "DiagramBench$Pool" "highs" "[I", .methodLink RX2 95 yX1_variableAt, .instanceMethod yX1_variableAt, .selects RX1 yX1_variableAt yX1_variableAt, .initialized RX1, .code yX1_variableAt cX1_variableAt 2 (some .int), .fieldLink RX1 9 "DiagramBench$Order" "variables" "[I"] ++ wsX20 ++ wsX10)
def wsX2_pathsFrom : List Cond := .code yX2_pathsFrom cX2_pathsFrom 4 (some .int) :: ([.fieldLink RX2 15 "DiagramBench$Pool" "lows" "[I", .fieldLink RX2 18 "DiagramBench$Pool" "highs" "[I", .methodLink RX2 100 yX2_pathsFrom, .instanceMethod yX2_pathsFrom, .selects RX2 yX2_pathsFrom yX2_pathsFrom, .initialized RX2] ++ wsX20)
def wsX2_pathCount : List Cond := .code yX2_pathCount cX2_pathCount 3 (some .int) :: ([.methodLink RX2 100 yX2_pathsFrom, .instanceMethod yX2_pathsFrom, .selects RX2 yX2_pathsFrom yX2_pathsFrom, .initialized RX2, .code yX2_pathsFrom cX2_pathsFrom 4 (some .int), .fieldLink RX2 15 "DiagramBench$Pool" "lows" "[I", .fieldLink RX2 18 "DiagramBench$Pool" "highs" "[I"] ++ wsX20)
def wsX3_init_r1 : List Cond := [Cond.methodLink RX3 3 objectInit, Cond.instanceMethod objectInit, Cond.code objectInit ⟨#[0xb1]⟩ 1 none, Cond.classLink RX3 9 RX0, Cond.fieldLink RX3 11 "DiagramBench" "nets" "[LDiagramBench$Net;", Cond.classLink RX3 15 RX1, Cond.instantiable RX1 3, Cond.initialized RX1, Cond.fieldLink RX3 18 "DiagramBench" "places" "LDiagramBench$Order;", Cond.classLink RX3 22 RX2, Cond.instantiable RX2 9, Cond.initialized RX2, Cond.fieldLink RX3 25 "DiagramBench" "pool" "LDiagramBench$Pool;", Cond.arrayClass .int, Cond.fieldLink RX3 29 "DiagramBench" "held" "[I", Cond.fieldLink RX3 33 "DiagramBench" "ofGate" "[I", Cond.fieldLink RX3 36 "DiagramBench" "lastNeed" "[I", Cond.fieldLink RX3 39 "DiagramBench" "kept" "[I", Cond.fieldLink RX3 42 "DiagramBench" "keptCount" "I", Cond.fieldLink RX3 46 "DiagramBench" "mostInUse" "I", Cond.fieldLink RX3 49 "DiagramBench" "partedOutput" "I", Cond.fieldLink RX3 52 "DiagramBench" "partedAssignment" "I", Cond.instantiable RX0 6, Cond.initialized RX0]
def wsX3_init_r2 : List Cond := [Cond.methodLink RX3 17 yX1_init, Cond.instanceMethod yX1_init, Cond.code yX1_init cX1_init 2 none, Cond.methodLink RX1 3 objectInit, Cond.fieldLink RX1 9 "DiagramBench$Order" "variables" "[I", Cond.fieldLink RX1 15 "DiagramBench$Order" "placesOf" "[I", Cond.fieldLink RX1 18 "DiagramBench$Order" "met" "I", Cond.methodLink RX3 24 yX2_init, Cond.instanceMethod yX2_init, Cond.code yX2_init cX2_init 1 none, Cond.methodLink RX2 3 objectInit, Cond.fieldLink RX2 11 "DiagramBench$Pool" "places" "[I", Cond.fieldLink RX2 15 "DiagramBench$Pool" "lows" "[I", Cond.fieldLink RX2 18 "DiagramBench$Pool" "highs" "[I", Cond.fieldLink RX2 21 "DiagramBench$Pool" "marks" "[I", Cond.fieldLink RX2 24 "DiagramBench$Pool" "next" "[I", Cond.fieldLink RX2 27 "DiagramBench$Pool" "rows" "[I", Cond.fieldLink RX2 30 "DiagramBench$Pool" "firstFree" "I", Cond.fieldLink RX2 34 "DiagramBench$Pool" "used" "I", Cond.fieldLink RX2 37 "DiagramBench$Pool" "most" "I", Cond.methodLink RX2 40 yX2_sweep, Cond.instanceMethod yX2_sweep, Cond.selects RX2 yX2_sweep yX2_sweep, Cond.code yX2_sweep cX2_sweep 2 none]
def wsX3_init_r3 : List Cond := [Cond.methodLink RX2 43 yJ7_fill_53178, Cond.static yJ7_fill_53178, Cond.initialized RJ7, Cond.code yJ7_fill_53178 cJ7_fill_53178 4 none, Cond.methodLink RX2 64 yX2_enter, Cond.instanceMethod yX2_enter, Cond.selects RX2 yX2_enter yX2_enter, Cond.code yX2_enter cX2_enter 3 none, Cond.methodLink RX3 55 yX0_init, Cond.instanceMethod yX0_init, Cond.code yX0_init cX0_init 1 none, Cond.methodLink RX0 3 objectInit, Cond.fieldLink RX0 9 "DiagramBench$Net" "kinds" "[I", Cond.fieldLink RX0 15 "DiagramBench$Net" "operands" "[I", Cond.fieldLink RX0 18 "DiagramBench$Net" "outputGates" "[I", Cond.fieldLink RX0 21 "DiagramBench$Net" "ofGates" "[I", Cond.fieldLink RX0 24 "DiagramBench$Net" "gates" "I", Cond.fieldLink RX0 28 "DiagramBench$Net" "outputs" "I", Cond.methodLink RX3 56 yJ7_fill_53178]
def wsX3_init : List Cond := .code yX3_init cX3_init 2 none :: ((wsX3_init_r1 ++ (wsX3_init_r2 ++ wsX3_init_r3)) ++ wsX30 ++ wsX10 ++ wsX20 ++ wsX00)
def wsX3_isNet : List Cond := .code yX3_isNet cX3_isNet 1 (some .boolean) :: ([])
def wsX3_isVariable : List Cond := .code yX3_isVariable cX3_isVariable 1 (some .boolean) :: ([])
def wsX3_gate : List Cond := .code yX3_gate cX3_gate 6 (some .int) :: ([.fieldLink RX3 11 "DiagramBench" "nets" "[LDiagramBench$Net;", .methodLink RX3 62 yX3_isNet, .static yX3_isNet, .initialized RX3, .code yX3_isNet cX3_isNet 1 (some .boolean), .methodLink RX3 66 yX0_hasOperands, .instanceMethod yX0_hasOperands, .selects RX0 yX0_hasOperands yX0_hasOperands, .initialized RX0, .code yX0_hasOperands cX0_hasOperands 6 (some .boolean), .methodLink RX0 34 yX0_hasGate, .instanceMethod yX0_hasGate, .selects RX0 yX0_hasGate yX0_hasGate, .code yX0_hasGate cX0_hasGate 2 (some .boolean), .fieldLink RX0 24 "DiagramBench$Net" "gates" "I", .methodLink RX3 70 yX3_isVariable, .static yX3_isVariable, .code yX3_isVariable cX3_isVariable 1 (some .boolean), .methodLink RX3 73 yX0_addGate, .instanceMethod yX0_addGate, .selects RX0 yX0_addGate yX0_addGate, .code yX0_addGate cX0_addGate 5 (some .int), .fieldLink RX0 9 "DiagramBench$Net" "kinds" "[I", .fieldLink RX0 15 "DiagramBench$Net" "operands" "[I"] ++ wsX30 ++ wsX00)
def wsX3_output : List Cond := .code yX3_output cX3_output 3 (some .int) :: ([.fieldLink RX3 11 "DiagramBench" "nets" "[LDiagramBench$Net;", .methodLink RX3 62 yX3_isNet, .static yX3_isNet, .initialized RX3, .code yX3_isNet cX3_isNet 1 (some .boolean), .methodLink RX3 77 yX0_hasGate, .instanceMethod yX0_hasGate, .selects RX0 yX0_hasGate yX0_hasGate, .initialized RX0, .code yX0_hasGate cX0_hasGate 2 (some .boolean), .fieldLink RX0 24 "DiagramBench$Net" "gates" "I", .methodLink RX3 80 yX0_addOutput, .instanceMethod yX0_addOutput, .selects RX0 yX0_addOutput yX0_addOutput, .code yX0_addOutput cX0_addOutput 2 (some .int), .fieldLink RX0 28 "DiagramBench$Net" "outputs" "I", .fieldLink RX0 18 "DiagramBench$Net" "outputGates" "[I"] ++ wsX30 ++ wsX00)
def wsX3_clear : List Cond := .code yX3_clear cX3_clear 2 (some .int) :: ([.fieldLink RX3 11 "DiagramBench" "nets" "[LDiagramBench$Net;", .methodLink RX3 62 yX3_isNet, .static yX3_isNet, .initialized RX3, .code yX3_isNet cX3_isNet 1 (some .boolean), .methodLink RX3 84 yX0_empty, .instanceMethod yX0_empty, .selects RX0 yX0_empty yX0_empty, .initialized RX0, .code yX0_empty cX0_empty 2 (some .int), .fieldLink RX0 24 "DiagramBench$Net" "gates" "I", .fieldLink RX0 28 "DiagramBench$Net" "outputs" "I"] ++ wsX30 ++ wsX00)
def wsX3_isAssignment : List Cond := .code yX3_isAssignment cX3_isAssignment 1 (some .boolean) :: ([])
def wsX3_gives_r1 : List Cond := [Cond.fieldLink RX3 11 "DiagramBench" "nets" "[LDiagramBench$Net;", Cond.methodLink RX3 62 yX3_isNet, Cond.static yX3_isNet, Cond.initialized RX3, Cond.code yX3_isNet cX3_isNet 1 (some .boolean), Cond.methodLink RX3 88 yX0_hasOutput, Cond.instanceMethod yX0_hasOutput, Cond.selects RX0 yX0_hasOutput yX0_hasOutput, Cond.initialized RX0, Cond.code yX0_hasOutput cX0_hasOutput 2 (some .boolean), Cond.fieldLink RX0 28 "DiagramBench$Net" "outputs" "I", Cond.methodLink RX3 91 yX3_isAssignment, Cond.static yX3_isAssignment, Cond.code yX3_isAssignment cX3_isAssignment 1 (some .boolean), Cond.methodLink RX3 94 yX0_outputValue, Cond.instanceMethod yX0_outputValue, Cond.selects RX0 yX0_outputValue yX0_outputValue, Cond.code yX0_outputValue cX0_outputValue 5 (some .int), Cond.fieldLink RX0 18 "DiagramBench$Net" "outputGates" "[I", Cond.fieldLink RX0 21 "DiagramBench$Net" "ofGates" "[I", Cond.methodLink RX0 38 yX0_gateValue, Cond.instanceMethod yX0_gateValue, Cond.selects RX0 yX0_gateValue yX0_gateValue, Cond.code yX0_gateValue cX0_gateValue 6 (some .int)]
def wsX3_gives_r2 : List Cond := [Cond.fieldLink RX0 9 "DiagramBench$Net" "kinds" "[I", Cond.methodLink RX0 42 yX0_operand, Cond.instanceMethod yX0_operand, Cond.selects RX0 yX0_operand yX0_operand, Cond.code yX0_operand cX0_operand 3 (some .int), Cond.fieldLink RX0 15 "DiagramBench$Net" "operands" "[I"]
def wsX3_gives : List Cond := .code yX3_gives cX3_gives 4 (some .int) :: ((wsX3_gives_r1 ++ wsX3_gives_r2) ++ wsX30 ++ wsX00)
def wsX3_heldCount : List Cond := .code yX3_heldCount cX3_heldCount 3 (some .int) :: ([.fieldLink RX3 29 "DiagramBench" "held" "[I"] ++ wsX30)
def wsX3_order_r1 : List Cond := [Cond.fieldLink RX3 18 "DiagramBench" "places" "LDiagramBench$Order;", Cond.fieldLink RX3 11 "DiagramBench" "nets" "[LDiagramBench$Net;", Cond.methodLink RX3 62 yX3_isNet, Cond.static yX3_isNet, Cond.initialized RX3, Cond.code yX3_isNet cX3_isNet 1 (some .boolean), Cond.methodLink RX3 98 yX3_heldCount, Cond.instanceMethod yX3_heldCount, Cond.selects RX3 yX3_heldCount yX3_heldCount, Cond.code yX3_heldCount cX3_heldCount 3 (some .int), Cond.fieldLink RX3 29 "DiagramBench" "held" "[I", Cond.methodLink RX3 101 yX1_forget, Cond.instanceMethod yX1_forget, Cond.selects RX1 yX1_forget yX1_forget, Cond.initialized RX1, Cond.code yX1_forget cX1_forget 1 none, Cond.fieldLink RX1 15 "DiagramBench$Order" "placesOf" "[I", Cond.fieldLink RX1 18 "DiagramBench$Order" "met" "I", Cond.methodLink RX1 22 yJ7_fill_53178, Cond.static yJ7_fill_53178, Cond.initialized RJ7, Cond.code yJ7_fill_53178 cJ7_fill_53178 4 none, Cond.methodLink RX3 104 yX0_meetVariables, Cond.instanceMethod yX0_meetVariables]
def wsX3_order_r2 : List Cond := [Cond.selects RX0 yX0_meetVariables yX0_meetVariables, Cond.initialized RX0, Cond.code yX0_meetVariables cX0_meetVariables 3 none, Cond.fieldLink RX0 21 "DiagramBench$Net" "ofGates" "[I", Cond.fieldLink RX0 28 "DiagramBench$Net" "outputs" "I", Cond.fieldLink RX0 18 "DiagramBench$Net" "outputGates" "[I", Cond.methodLink RX0 48 yJ7_fill_53178, Cond.methodLink RX0 58 yX0_goInto, Cond.instanceMethod yX0_goInto, Cond.selects RX0 yX0_goInto yX0_goInto, Cond.code yX0_goInto cX0_goInto 5 none, Cond.fieldLink RX0 9 "DiagramBench$Net" "kinds" "[I", Cond.methodLink RX0 42 yX0_operand, Cond.instanceMethod yX0_operand, Cond.selects RX0 yX0_operand yX0_operand, Cond.code yX0_operand cX0_operand 3 (some .int), Cond.fieldLink RX0 15 "DiagramBench$Net" "operands" "[I", Cond.methodLink RX0 62 yX1_meet, Cond.instanceMethod yX1_meet, Cond.selects RX1 yX1_meet yX1_meet, Cond.code yX1_meet cX1_meet 2 none, Cond.methodLink RX1 28 yX1_put, Cond.instanceMethod yX1_put, Cond.selects RX1 yX1_put yX1_put]
def wsX3_order_r3 : List Cond := [Cond.code yX1_put cX1_put 3 none, Cond.fieldLink RX1 9 "DiagramBench$Order" "variables" "[I", Cond.methodLink RX3 108 yX1_meetOthers, Cond.instanceMethod yX1_meetOthers, Cond.selects RX1 yX1_meetOthers yX1_meetOthers, Cond.code yX1_meetOthers cX1_meetOthers 3 (some .int), Cond.methodLink RX1 32 yX1_meet]
def wsX3_order : List Cond := .code yX3_order cX3_order 2 (some .int) :: ((wsX3_order_r1 ++ (wsX3_order_r2 ++ wsX3_order_r3)) ++ wsX30 ++ wsX10 ++ wsX00)
def wsX3_move : List Cond := .code yX3_move cX3_move 3 (some .int) :: ([.fieldLink RX3 18 "DiagramBench" "places" "LDiagramBench$Order;", .methodLink RX3 70 yX3_isVariable, .static yX3_isVariable, .initialized RX3, .code yX3_isVariable cX3_isVariable 1 (some .boolean), .methodLink RX3 98 yX3_heldCount, .instanceMethod yX3_heldCount, .selects RX3 yX3_heldCount yX3_heldCount, .code yX3_heldCount cX3_heldCount 3 (some .int), .fieldLink RX3 29 "DiagramBench" "held" "[I", .methodLink RX3 111 yX1_moveTo, .instanceMethod yX1_moveTo, .selects RX1 yX1_moveTo yX1_moveTo, .initialized RX1, .code yX1_moveTo cX1_moveTo 5 (some .int), .fieldLink RX1 15 "DiagramBench$Order" "placesOf" "[I", .fieldLink RX1 9 "DiagramBench$Order" "variables" "[I", .methodLink RX1 28 yX1_put, .instanceMethod yX1_put, .selects RX1 yX1_put yX1_put, .code yX1_put cX1_put 3 none] ++ wsX30 ++ wsX10)
def wsX3_at : List Cond := .code yX3_at cX3_at 2 (some .int) :: ([.fieldLink RX3 18 "DiagramBench" "places" "LDiagramBench$Order;", .methodLink RX3 70 yX3_isVariable, .static yX3_isVariable, .initialized RX3, .code yX3_isVariable cX3_isVariable 1 (some .boolean), .methodLink RX3 114 yX1_variableAt, .instanceMethod yX1_variableAt, .selects RX1 yX1_variableAt yX1_variableAt, .initialized RX1, .code yX1_variableAt cX1_variableAt 2 (some .int), .fieldLink RX1 9 "DiagramBench$Order" "variables" "[I"] ++ wsX30 ++ wsX10)
def wsX3_collect_r1 : List Cond := [Cond.fieldLink RX3 25 "DiagramBench" "pool" "LDiagramBench$Pool;", Cond.fieldLink RX3 29 "DiagramBench" "held" "[I", Cond.fieldLink RX3 33 "DiagramBench" "ofGate" "[I", Cond.fieldLink RX3 42 "DiagramBench" "keptCount" "I", Cond.fieldLink RX3 39 "DiagramBench" "kept" "[I", Cond.methodLink RX3 217 yX2_unmark, Cond.instanceMethod yX2_unmark, Cond.selects RX2 yX2_unmark yX2_unmark, Cond.initialized RX2, Cond.code yX2_unmark cX2_unmark 1 none, Cond.fieldLink RX2 21 "DiagramBench$Pool" "marks" "[I", Cond.methodLink RX2 43 yJ7_fill_53178, Cond.static yJ7_fill_53178, Cond.initialized RJ7, Cond.code yJ7_fill_53178 cJ7_fill_53178 4 none, Cond.methodLink RX3 220 yX2_mark, Cond.instanceMethod yX2_mark, Cond.selects RX2 yX2_mark yX2_mark, Cond.code yX2_mark cX2_mark 2 none, Cond.methodLink RX2 49 yX2_markWith, Cond.instanceMethod yX2_markWith, Cond.selects RX2 yX2_markWith yX2_markWith, Cond.code yX2_markWith cX2_markWith 4 none, Cond.fieldLink RX2 15 "DiagramBench$Pool" "lows" "[I"]
def wsX3_collect_r2 : List Cond := [Cond.fieldLink RX2 18 "DiagramBench$Pool" "highs" "[I", Cond.methodLink RX3 224 yX2_sweep, Cond.instanceMethod yX2_sweep, Cond.selects RX2 yX2_sweep yX2_sweep, Cond.code yX2_sweep cX2_sweep 2 none, Cond.fieldLink RX2 27 "DiagramBench$Pool" "rows" "[I", Cond.fieldLink RX2 30 "DiagramBench$Pool" "firstFree" "I", Cond.fieldLink RX2 34 "DiagramBench$Pool" "used" "I", Cond.fieldLink RX2 24 "DiagramBench$Pool" "next" "[I", Cond.methodLink RX2 64 yX2_enter, Cond.instanceMethod yX2_enter, Cond.selects RX2 yX2_enter yX2_enter, Cond.code yX2_enter cX2_enter 3 none]
def wsX3_collect : List Cond := .code yX3_collect cX3_collect 2 none :: ((wsX3_collect_r1 ++ wsX3_collect_r2) ++ wsX30 ++ wsX20)
def wsX3_inUse_r1 : List Cond := [Cond.fieldLink RX3 25 "DiagramBench" "pool" "LDiagramBench$Pool;", Cond.methodLink RX3 155 yX3_collect, Cond.instanceMethod yX3_collect, Cond.selects RX3 yX3_collect yX3_collect, Cond.initialized RX3, Cond.code yX3_collect cX3_collect 2 none, Cond.fieldLink RX3 29 "DiagramBench" "held" "[I", Cond.fieldLink RX3 33 "DiagramBench" "ofGate" "[I", Cond.fieldLink RX3 42 "DiagramBench" "keptCount" "I", Cond.fieldLink RX3 39 "DiagramBench" "kept" "[I", Cond.methodLink RX3 217 yX2_unmark, Cond.instanceMethod yX2_unmark, Cond.selects RX2 yX2_unmark yX2_unmark, Cond.initialized RX2, Cond.code yX2_unmark cX2_unmark 1 none, Cond.fieldLink RX2 21 "DiagramBench$Pool" "marks" "[I", Cond.methodLink RX2 43 yJ7_fill_53178, Cond.static yJ7_fill_53178, Cond.initialized RJ7, Cond.code yJ7_fill_53178 cJ7_fill_53178 4 none, Cond.methodLink RX3 220 yX2_mark, Cond.instanceMethod yX2_mark, Cond.selects RX2 yX2_mark yX2_mark, Cond.code yX2_mark cX2_mark 2 none]
def wsX3_inUse_r2 : List Cond := [Cond.methodLink RX2 49 yX2_markWith, Cond.instanceMethod yX2_markWith, Cond.selects RX2 yX2_markWith yX2_markWith, Cond.code yX2_markWith cX2_markWith 4 none, Cond.fieldLink RX2 15 "DiagramBench$Pool" "lows" "[I", Cond.fieldLink RX2 18 "DiagramBench$Pool" "highs" "[I", Cond.methodLink RX3 224 yX2_sweep, Cond.instanceMethod yX2_sweep, Cond.selects RX2 yX2_sweep yX2_sweep, Cond.code yX2_sweep cX2_sweep 2 none, Cond.fieldLink RX2 27 "DiagramBench$Pool" "rows" "[I", Cond.fieldLink RX2 30 "DiagramBench$Pool" "firstFree" "I", Cond.fieldLink RX2 34 "DiagramBench$Pool" "used" "I", Cond.fieldLink RX2 24 "DiagramBench$Pool" "next" "[I", Cond.methodLink RX2 64 yX2_enter, Cond.instanceMethod yX2_enter, Cond.selects RX2 yX2_enter yX2_enter, Cond.code yX2_enter cX2_enter 3 none, Cond.methodLink RX3 158 yX2_usedCount, Cond.instanceMethod yX2_usedCount, Cond.selects RX2 yX2_usedCount yX2_usedCount, Cond.code yX2_usedCount cX2_usedCount 1 (some .int)]
def wsX3_inUse : List Cond := .code yX3_inUse cX3_inUse 1 (some .int) :: ((wsX3_inUse_r1 ++ wsX3_inUse_r2) ++ wsX30 ++ wsX20)
def wsX3_room_r1 : List Cond := [Cond.fieldLink RX3 25 "DiagramBench" "pool" "LDiagramBench$Pool;", Cond.methodLink RX3 117 yX3_inUse, Cond.instanceMethod yX3_inUse, Cond.selects RX3 yX3_inUse yX3_inUse, Cond.initialized RX3, Cond.code yX3_inUse cX3_inUse 1 (some .int), Cond.methodLink RX3 155 yX3_collect, Cond.instanceMethod yX3_collect, Cond.selects RX3 yX3_collect yX3_collect, Cond.code yX3_collect cX3_collect 2 none, Cond.fieldLink RX3 29 "DiagramBench" "held" "[I", Cond.fieldLink RX3 33 "DiagramBench" "ofGate" "[I", Cond.fieldLink RX3 42 "DiagramBench" "keptCount" "I", Cond.fieldLink RX3 39 "DiagramBench" "kept" "[I", Cond.methodLink RX3 217 yX2_unmark, Cond.instanceMethod yX2_unmark, Cond.selects RX2 yX2_unmark yX2_unmark, Cond.initialized RX2, Cond.code yX2_unmark cX2_unmark 1 none, Cond.fieldLink RX2 21 "DiagramBench$Pool" "marks" "[I", Cond.methodLink RX2 43 yJ7_fill_53178, Cond.static yJ7_fill_53178, Cond.initialized RJ7, Cond.code yJ7_fill_53178 cJ7_fill_53178 4 none]
def wsX3_room_r2 : List Cond := [Cond.methodLink RX3 220 yX2_mark, Cond.instanceMethod yX2_mark, Cond.selects RX2 yX2_mark yX2_mark, Cond.code yX2_mark cX2_mark 2 none, Cond.methodLink RX2 49 yX2_markWith, Cond.instanceMethod yX2_markWith, Cond.selects RX2 yX2_markWith yX2_markWith, Cond.code yX2_markWith cX2_markWith 4 none, Cond.fieldLink RX2 15 "DiagramBench$Pool" "lows" "[I", Cond.fieldLink RX2 18 "DiagramBench$Pool" "highs" "[I", Cond.methodLink RX3 224 yX2_sweep, Cond.instanceMethod yX2_sweep, Cond.selects RX2 yX2_sweep yX2_sweep, Cond.code yX2_sweep cX2_sweep 2 none, Cond.fieldLink RX2 27 "DiagramBench$Pool" "rows" "[I", Cond.fieldLink RX2 30 "DiagramBench$Pool" "firstFree" "I", Cond.fieldLink RX2 34 "DiagramBench$Pool" "used" "I", Cond.fieldLink RX2 24 "DiagramBench$Pool" "next" "[I", Cond.methodLink RX2 64 yX2_enter, Cond.instanceMethod yX2_enter, Cond.selects RX2 yX2_enter yX2_enter, Cond.code yX2_enter cX2_enter 3 none, Cond.methodLink RX3 158 yX2_usedCount, Cond.instanceMethod yX2_usedCount]
def wsX3_room_r3 : List Cond := [Cond.selects RX2 yX2_usedCount yX2_usedCount, Cond.code yX2_usedCount cX2_usedCount 1 (some .int), Cond.methodLink RX3 120 yX2_changeLimit, Cond.instanceMethod yX2_changeLimit, Cond.selects RX2 yX2_changeLimit yX2_changeLimit, Cond.code yX2_changeLimit cX2_changeLimit 3 (some .int), Cond.fieldLink RX2 37 "DiagramBench$Pool" "most" "I"]
def wsX3_room : List Cond := .code yX3_room cX3_room 2 (some .int) :: ((wsX3_room_r1 ++ (wsX3_room_r2 ++ wsX3_room_r3)) ++ wsX30 ++ wsX20)
def wsX3_isHandle : List Cond := .code yX3_isHandle cX3_isHandle 1 (some .boolean) :: ([])
def wsX3_beginSteps : List Cond := .code yX3_beginSteps cX3_beginSteps 1 none :: ([.fieldLink RX3 46 "DiagramBench" "mostInUse" "I"] ++ wsX30)
def wsX3_measured : List Cond := .code yX3_measured cX3_measured 3 (some .int) :: ([.fieldLink RX3 25 "DiagramBench" "pool" "LDiagramBench$Pool;", .fieldLink RX3 46 "DiagramBench" "mostInUse" "I", .methodLink RX3 212 Lib.Math.max.name, .static Lib.Math.max.name, .initialized "java/lang/Math", .code Lib.Math.max.name Lib.Math.max.code 2 (some .int), .methodLink RX3 194 yX2_limit, .instanceMethod yX2_limit, .selects RX2 yX2_limit yX2_limit, .initialized RX2, .code yX2_limit cX2_limit 1 (some .int), .fieldLink RX2 37 "DiagramBench$Pool" "most" "I", .methodLink RX3 158 yX2_usedCount, .instanceMethod yX2_usedCount, .selects RX2 yX2_usedCount yX2_usedCount, .code yX2_usedCount cX2_usedCount 1 (some .int), .fieldLink RX2 34 "DiagramBench$Pool" "used" "I"] ++ wsX30 ++ wsX20)
def wsX3_variableStep_r1 : List Cond := [Cond.fieldLink RX3 25 "DiagramBench" "pool" "LDiagramBench$Pool;", Cond.fieldLink RX3 18 "DiagramBench" "places" "LDiagramBench$Order;", Cond.methodLink RX3 155 yX3_collect, Cond.instanceMethod yX3_collect, Cond.selects RX3 yX3_collect yX3_collect, Cond.initialized RX3, Cond.code yX3_collect cX3_collect 2 none, Cond.fieldLink RX3 29 "DiagramBench" "held" "[I", Cond.fieldLink RX3 33 "DiagramBench" "ofGate" "[I", Cond.fieldLink RX3 42 "DiagramBench" "keptCount" "I", Cond.fieldLink RX3 39 "DiagramBench" "kept" "[I", Cond.methodLink RX3 217 yX2_unmark, Cond.instanceMethod yX2_unmark, Cond.selects RX2 yX2_unmark yX2_unmark, Cond.initialized RX2, Cond.code yX2_unmark cX2_unmark 1 none, Cond.fieldLink RX2 21 "DiagramBench$Pool" "marks" "[I", Cond.methodLink RX2 43 yJ7_fill_53178, Cond.static yJ7_fill_53178, Cond.initialized RJ7, Cond.code yJ7_fill_53178 cJ7_fill_53178 4 none, Cond.methodLink RX3 220 yX2_mark, Cond.instanceMethod yX2_mark, Cond.selects RX2 yX2_mark yX2_mark]
def wsX3_variableStep_r2 : List Cond := [Cond.code yX2_mark cX2_mark 2 none, Cond.methodLink RX2 49 yX2_markWith, Cond.instanceMethod yX2_markWith, Cond.selects RX2 yX2_markWith yX2_markWith, Cond.code yX2_markWith cX2_markWith 4 none, Cond.fieldLink RX2 15 "DiagramBench$Pool" "lows" "[I", Cond.fieldLink RX2 18 "DiagramBench$Pool" "highs" "[I", Cond.methodLink RX3 224 yX2_sweep, Cond.instanceMethod yX2_sweep, Cond.selects RX2 yX2_sweep yX2_sweep, Cond.code yX2_sweep cX2_sweep 2 none, Cond.fieldLink RX2 27 "DiagramBench$Pool" "rows" "[I", Cond.fieldLink RX2 30 "DiagramBench$Pool" "firstFree" "I", Cond.fieldLink RX2 34 "DiagramBench$Pool" "used" "I", Cond.fieldLink RX2 24 "DiagramBench$Pool" "next" "[I", Cond.methodLink RX2 64 yX2_enter, Cond.instanceMethod yX2_enter, Cond.selects RX2 yX2_enter yX2_enter, Cond.code yX2_enter cX2_enter 3 none, Cond.methodLink RX3 174 yX1_placeOf, Cond.instanceMethod yX1_placeOf, Cond.selects RX1 yX1_placeOf yX1_placeOf, Cond.initialized RX1, Cond.code yX1_placeOf cX1_placeOf 2 (some .int)]
def wsX3_variableStep_r3 : List Cond := [Cond.fieldLink RX1 15 "DiagramBench$Order" "placesOf" "[I", Cond.methodLink RX3 206 yX2_makeVariable, Cond.instanceMethod yX2_makeVariable, Cond.selects RX2 yX2_makeVariable yX2_makeVariable, Cond.code yX2_makeVariable cX2_makeVariable 2 (some .int), Cond.methodLink RX2 67 yX2_nodeFor, Cond.instanceMethod yX2_nodeFor, Cond.selects RX2 yX2_nodeFor yX2_nodeFor, Cond.code yX2_nodeFor cX2_nodeFor 6 (some .int), Cond.fieldLink RX2 11 "DiagramBench$Pool" "places" "[I", Cond.fieldLink RX2 37 "DiagramBench$Pool" "most" "I", Cond.methodLink RX3 203 yX3_measured, Cond.instanceMethod yX3_measured, Cond.selects RX3 yX3_measured yX3_measured, Cond.code yX3_measured cX3_measured 3 (some .int), Cond.fieldLink RX3 46 "DiagramBench" "mostInUse" "I", Cond.methodLink RX3 212 Lib.Math.max.name, Cond.static Lib.Math.max.name, Cond.initialized "java/lang/Math", Cond.code Lib.Math.max.name Lib.Math.max.code 2 (some .int), Cond.methodLink RX3 194 yX2_limit, Cond.instanceMethod yX2_limit, Cond.selects RX2 yX2_limit yX2_limit, Cond.code yX2_limit cX2_limit 1 (some .int)]
def wsX3_variableStep_r4 : List Cond := [Cond.methodLink RX3 158 yX2_usedCount, Cond.instanceMethod yX2_usedCount, Cond.selects RX2 yX2_usedCount yX2_usedCount, Cond.code yX2_usedCount cX2_usedCount 1 (some .int)]
def wsX3_variableStep : List Cond := .code yX3_variableStep cX3_variableStep 2 (some .int) :: ((wsX3_variableStep_r1 ++ (wsX3_variableStep_r2 ++ (wsX3_variableStep_r3 ++ wsX3_variableStep_r4))) ++ wsX30 ++ wsX20 ++ wsX10)
def wsX3_madeFor : List Cond := .code yX3_madeFor cX3_madeFor 4 (some .int) :: ([.fieldLink RX3 245 "DiagramBench" "OPERANDS" "[I", .fieldLink RX3 33 "DiagramBench" "ofGate" "[I", .methodLink RX3 231 yX0_kindOf, .instanceMethod yX0_kindOf, .selects RX0 yX0_kindOf yX0_kindOf, .initialized RX0, .code yX0_kindOf cX0_kindOf 2 (some .int), .fieldLink RX0 9 "DiagramBench$Net" "kinds" "[I", .methodLink RX3 234 yX0_operand, .instanceMethod yX0_operand, .selects RX0 yX0_operand yX0_operand, .code yX0_operand cX0_operand 3 (some .int), .fieldLink RX0 15 "DiagramBench$Net" "operands" "[I"] ++ wsX30 ++ wsX00)
def wsX3_kindStep_r1 : List Cond := [Cond.fieldLink RX3 25 "DiagramBench" "pool" "LDiagramBench$Pool;", Cond.fieldLink RX3 197 "DiagramBench" "TABLES" "[I", Cond.methodLink RX3 155 yX3_collect, Cond.instanceMethod yX3_collect, Cond.selects RX3 yX3_collect yX3_collect, Cond.initialized RX3, Cond.code yX3_collect cX3_collect 2 none, Cond.fieldLink RX3 29 "DiagramBench" "held" "[I", Cond.fieldLink RX3 33 "DiagramBench" "ofGate" "[I", Cond.fieldLink RX3 42 "DiagramBench" "keptCount" "I", Cond.fieldLink RX3 39 "DiagramBench" "kept" "[I", Cond.methodLink RX3 217 yX2_unmark, Cond.instanceMethod yX2_unmark, Cond.selects RX2 yX2_unmark yX2_unmark, Cond.initialized RX2, Cond.code yX2_unmark cX2_unmark 1 none, Cond.fieldLink RX2 21 "DiagramBench$Pool" "marks" "[I", Cond.methodLink RX2 43 yJ7_fill_53178, Cond.static yJ7_fill_53178, Cond.initialized RJ7, Cond.code yJ7_fill_53178 cJ7_fill_53178 4 none, Cond.methodLink RX3 220 yX2_mark, Cond.instanceMethod yX2_mark, Cond.selects RX2 yX2_mark yX2_mark]
def wsX3_kindStep_r2 : List Cond := [Cond.code yX2_mark cX2_mark 2 none, Cond.methodLink RX2 49 yX2_markWith, Cond.instanceMethod yX2_markWith, Cond.selects RX2 yX2_markWith yX2_markWith, Cond.code yX2_markWith cX2_markWith 4 none, Cond.fieldLink RX2 15 "DiagramBench$Pool" "lows" "[I", Cond.fieldLink RX2 18 "DiagramBench$Pool" "highs" "[I", Cond.methodLink RX3 224 yX2_sweep, Cond.instanceMethod yX2_sweep, Cond.selects RX2 yX2_sweep yX2_sweep, Cond.code yX2_sweep cX2_sweep 2 none, Cond.fieldLink RX2 27 "DiagramBench$Pool" "rows" "[I", Cond.fieldLink RX2 30 "DiagramBench$Pool" "firstFree" "I", Cond.fieldLink RX2 34 "DiagramBench$Pool" "used" "I", Cond.fieldLink RX2 24 "DiagramBench$Pool" "next" "[I", Cond.methodLink RX2 64 yX2_enter, Cond.instanceMethod yX2_enter, Cond.selects RX2 yX2_enter yX2_enter, Cond.code yX2_enter cX2_enter 3 none, Cond.methodLink RX3 200 yX2_make, Cond.instanceMethod yX2_make, Cond.selects RX2 yX2_make yX2_make, Cond.code yX2_make cX2_make 5 (some .int), Cond.methodLink RX2 71 yX2_makeFrom]
def wsX3_kindStep_r3 : List Cond := [Cond.instanceMethod yX2_makeFrom, Cond.selects RX2 yX2_makeFrom yX2_makeFrom, Cond.code yX2_makeFrom cX2_makeFrom 10 (some .int), Cond.fieldLink RX2 11 "DiagramBench$Pool" "places" "[I", Cond.methodLink RX2 79 Lib.Math.min.name, Cond.static Lib.Math.min.name, Cond.initialized "java/lang/Math", Cond.code Lib.Math.min.name Lib.Math.min.code 2 (some .int), Cond.methodLink RX2 75 yX2_knowing, Cond.static yX2_knowing, Cond.code yX2_knowing cX2_knowing 5 (some .int), Cond.methodLink RX2 85 yX2_lowAt, Cond.instanceMethod yX2_lowAt, Cond.selects RX2 yX2_lowAt yX2_lowAt, Cond.code yX2_lowAt cX2_lowAt 3 (some .int), Cond.methodLink RX2 88 yX2_highAt, Cond.instanceMethod yX2_highAt, Cond.selects RX2 yX2_highAt yX2_highAt, Cond.code yX2_highAt cX2_highAt 3 (some .int), Cond.methodLink RX2 67 yX2_nodeFor, Cond.instanceMethod yX2_nodeFor, Cond.selects RX2 yX2_nodeFor yX2_nodeFor, Cond.code yX2_nodeFor cX2_nodeFor 6 (some .int), Cond.fieldLink RX2 37 "DiagramBench$Pool" "most" "I"]
def wsX3_kindStep_r4 : List Cond := [Cond.methodLink RX3 203 yX3_measured, Cond.instanceMethod yX3_measured, Cond.selects RX3 yX3_measured yX3_measured, Cond.code yX3_measured cX3_measured 3 (some .int), Cond.fieldLink RX3 46 "DiagramBench" "mostInUse" "I", Cond.methodLink RX3 212 Lib.Math.max.name, Cond.static Lib.Math.max.name, Cond.code Lib.Math.max.name Lib.Math.max.code 2 (some .int), Cond.methodLink RX3 194 yX2_limit, Cond.instanceMethod yX2_limit, Cond.selects RX2 yX2_limit yX2_limit, Cond.code yX2_limit cX2_limit 1 (some .int), Cond.methodLink RX3 158 yX2_usedCount, Cond.instanceMethod yX2_usedCount, Cond.selects RX2 yX2_usedCount yX2_usedCount, Cond.code yX2_usedCount cX2_usedCount 1 (some .int)]
def wsX3_kindStep : List Cond := .code yX3_kindStep cX3_kindStep 5 (some .int) :: ((wsX3_kindStep_r1 ++ (wsX3_kindStep_r2 ++ (wsX3_kindStep_r3 ++ wsX3_kindStep_r4))) ++ wsX30 ++ wsX20)
def wsX3_letGoBehind : List Cond := .code yX3_letGoBehind cX3_letGoBehind 6 none :: ([.fieldLink RX3 245 "DiagramBench" "OPERANDS" "[I", .fieldLink RX3 36 "DiagramBench" "lastNeed" "[I", .fieldLink RX3 33 "DiagramBench" "ofGate" "[I", .methodLink RX3 231 yX0_kindOf, .instanceMethod yX0_kindOf, .selects RX0 yX0_kindOf yX0_kindOf, .initialized RX0, .code yX0_kindOf cX0_kindOf 2 (some .int), .fieldLink RX0 9 "DiagramBench$Net" "kinds" "[I", .methodLink RX3 234 yX0_operand, .instanceMethod yX0_operand, .selects RX0 yX0_operand yX0_operand, .code yX0_operand cX0_operand 3 (some .int), .fieldLink RX0 15 "DiagramBench$Net" "operands" "[I"] ++ wsX30 ++ wsX00)
def wsX3_keep : List Cond := .code yX3_keep cX3_keep 2 (some .int) :: ([.fieldLink RX3 42 "DiagramBench" "keptCount" "I", .fieldLink RX3 39 "DiagramBench" "kept" "[I"] ++ wsX30)
def wsX3_building_r1 : List Cond := [Cond.fieldLink RX3 36 "DiagramBench" "lastNeed" "[I", Cond.fieldLink RX3 33 "DiagramBench" "ofGate" "[I", Cond.methodLink RX3 227 yX0_findNeeds, Cond.instanceMethod yX0_findNeeds, Cond.selects RX0 yX0_findNeeds yX0_findNeeds, Cond.initialized RX0, Cond.code yX0_findNeeds cX0_findNeeds 5 (some .int), Cond.fieldLink RX0 18 "DiagramBench$Net" "outputGates" "[I", Cond.methodLink RX0 48 yJ7_fill_53178, Cond.static yJ7_fill_53178, Cond.initialized RJ7, Cond.code yJ7_fill_53178 cJ7_fill_53178 4 none, Cond.methodLink RX0 54 yX0_noteNeedsOf, Cond.instanceMethod yX0_noteNeedsOf, Cond.selects RX0 yX0_noteNeedsOf yX0_noteNeedsOf, Cond.code yX0_noteNeedsOf cX0_noteNeedsOf 5 none, Cond.fieldLink RX0 9 "DiagramBench$Net" "kinds" "[I", Cond.methodLink RX0 42 yX0_operand, Cond.instanceMethod yX0_operand, Cond.selects RX0 yX0_operand yX0_operand, Cond.code yX0_operand cX0_operand 3 (some .int), Cond.fieldLink RX0 15 "DiagramBench$Net" "operands" "[I", Cond.methodLink RX3 231 yX0_kindOf, Cond.instanceMethod yX0_kindOf]
def wsX3_building_r2 : List Cond := [Cond.selects RX0 yX0_kindOf yX0_kindOf, Cond.code yX0_kindOf cX0_kindOf 2 (some .int), Cond.methodLink RX3 234 yX0_operand, Cond.methodLink RX3 136 yX3_variableStep, Cond.instanceMethod yX3_variableStep, Cond.selects RX3 yX3_variableStep yX3_variableStep, Cond.initialized RX3, Cond.code yX3_variableStep cX3_variableStep 2 (some .int), Cond.fieldLink RX3 25 "DiagramBench" "pool" "LDiagramBench$Pool;", Cond.fieldLink RX3 18 "DiagramBench" "places" "LDiagramBench$Order;", Cond.methodLink RX3 155 yX3_collect, Cond.instanceMethod yX3_collect, Cond.selects RX3 yX3_collect yX3_collect, Cond.code yX3_collect cX3_collect 2 none, Cond.fieldLink RX3 29 "DiagramBench" "held" "[I", Cond.fieldLink RX3 42 "DiagramBench" "keptCount" "I", Cond.fieldLink RX3 39 "DiagramBench" "kept" "[I", Cond.methodLink RX3 217 yX2_unmark, Cond.instanceMethod yX2_unmark, Cond.selects RX2 yX2_unmark yX2_unmark, Cond.initialized RX2, Cond.code yX2_unmark cX2_unmark 1 none, Cond.fieldLink RX2 21 "DiagramBench$Pool" "marks" "[I", Cond.methodLink RX2 43 yJ7_fill_53178]
def wsX3_building_r3 : List Cond := [Cond.methodLink RX3 220 yX2_mark, Cond.instanceMethod yX2_mark, Cond.selects RX2 yX2_mark yX2_mark, Cond.code yX2_mark cX2_mark 2 none, Cond.methodLink RX2 49 yX2_markWith, Cond.instanceMethod yX2_markWith, Cond.selects RX2 yX2_markWith yX2_markWith, Cond.code yX2_markWith cX2_markWith 4 none, Cond.fieldLink RX2 15 "DiagramBench$Pool" "lows" "[I", Cond.fieldLink RX2 18 "DiagramBench$Pool" "highs" "[I", Cond.methodLink RX3 224 yX2_sweep, Cond.instanceMethod yX2_sweep, Cond.selects RX2 yX2_sweep yX2_sweep, Cond.code yX2_sweep cX2_sweep 2 none, Cond.fieldLink RX2 27 "DiagramBench$Pool" "rows" "[I", Cond.fieldLink RX2 30 "DiagramBench$Pool" "firstFree" "I", Cond.fieldLink RX2 34 "DiagramBench$Pool" "used" "I", Cond.fieldLink RX2 24 "DiagramBench$Pool" "next" "[I", Cond.methodLink RX2 64 yX2_enter, Cond.instanceMethod yX2_enter, Cond.selects RX2 yX2_enter yX2_enter, Cond.code yX2_enter cX2_enter 3 none, Cond.methodLink RX3 174 yX1_placeOf, Cond.instanceMethod yX1_placeOf]
def wsX3_building_r4 : List Cond := [Cond.selects RX1 yX1_placeOf yX1_placeOf, Cond.initialized RX1, Cond.code yX1_placeOf cX1_placeOf 2 (some .int), Cond.fieldLink RX1 15 "DiagramBench$Order" "placesOf" "[I", Cond.methodLink RX3 206 yX2_makeVariable, Cond.instanceMethod yX2_makeVariable, Cond.selects RX2 yX2_makeVariable yX2_makeVariable, Cond.code yX2_makeVariable cX2_makeVariable 2 (some .int), Cond.methodLink RX2 67 yX2_nodeFor, Cond.instanceMethod yX2_nodeFor, Cond.selects RX2 yX2_nodeFor yX2_nodeFor, Cond.code yX2_nodeFor cX2_nodeFor 6 (some .int), Cond.fieldLink RX2 11 "DiagramBench$Pool" "places" "[I", Cond.fieldLink RX2 37 "DiagramBench$Pool" "most" "I", Cond.methodLink RX3 203 yX3_measured, Cond.instanceMethod yX3_measured, Cond.selects RX3 yX3_measured yX3_measured, Cond.code yX3_measured cX3_measured 3 (some .int), Cond.fieldLink RX3 46 "DiagramBench" "mostInUse" "I", Cond.methodLink RX3 212 Lib.Math.max.name, Cond.static Lib.Math.max.name, Cond.initialized "java/lang/Math", Cond.code Lib.Math.max.name Lib.Math.max.code 2 (some .int), Cond.methodLink RX3 194 yX2_limit]
def wsX3_building_r5 : List Cond := [Cond.instanceMethod yX2_limit, Cond.selects RX2 yX2_limit yX2_limit, Cond.code yX2_limit cX2_limit 1 (some .int), Cond.methodLink RX3 158 yX2_usedCount, Cond.instanceMethod yX2_usedCount, Cond.selects RX2 yX2_usedCount yX2_usedCount, Cond.code yX2_usedCount cX2_usedCount 1 (some .int), Cond.methodLink RX3 237 yX3_madeFor, Cond.instanceMethod yX3_madeFor, Cond.selects RX3 yX3_madeFor yX3_madeFor, Cond.code yX3_madeFor cX3_madeFor 4 (some .int), Cond.fieldLink RX3 245 "DiagramBench" "OPERANDS" "[I", Cond.methodLink RX3 142 yX3_kindStep, Cond.instanceMethod yX3_kindStep, Cond.selects RX3 yX3_kindStep yX3_kindStep, Cond.code yX3_kindStep cX3_kindStep 5 (some .int), Cond.fieldLink RX3 197 "DiagramBench" "TABLES" "[I", Cond.methodLink RX3 200 yX2_make, Cond.instanceMethod yX2_make, Cond.selects RX2 yX2_make yX2_make, Cond.code yX2_make cX2_make 5 (some .int), Cond.methodLink RX2 71 yX2_makeFrom, Cond.instanceMethod yX2_makeFrom, Cond.selects RX2 yX2_makeFrom yX2_makeFrom]
def wsX3_building_r6 : List Cond := [Cond.code yX2_makeFrom cX2_makeFrom 10 (some .int), Cond.methodLink RX2 79 Lib.Math.min.name, Cond.static Lib.Math.min.name, Cond.code Lib.Math.min.name Lib.Math.min.code 2 (some .int), Cond.methodLink RX2 75 yX2_knowing, Cond.static yX2_knowing, Cond.code yX2_knowing cX2_knowing 5 (some .int), Cond.methodLink RX2 85 yX2_lowAt, Cond.instanceMethod yX2_lowAt, Cond.selects RX2 yX2_lowAt yX2_lowAt, Cond.code yX2_lowAt cX2_lowAt 3 (some .int), Cond.methodLink RX2 88 yX2_highAt, Cond.instanceMethod yX2_highAt, Cond.selects RX2 yX2_highAt yX2_highAt, Cond.code yX2_highAt cX2_highAt 3 (some .int), Cond.methodLink RX3 241 yX3_letGoBehind, Cond.instanceMethod yX3_letGoBehind, Cond.selects RX3 yX3_letGoBehind yX3_letGoBehind, Cond.code yX3_letGoBehind cX3_letGoBehind 6 none, Cond.methodLink RX3 149 yX3_keep, Cond.instanceMethod yX3_keep, Cond.selects RX3 yX3_keep yX3_keep, Cond.code yX3_keep cX3_keep 2 (some .int)]
def wsX3_building : List Cond := .code yX3_building cX3_building 7 (some .int) :: ((wsX3_building_r1 ++ (wsX3_building_r2 ++ (wsX3_building_r3 ++ (wsX3_building_r4 ++ (wsX3_building_r5 ++ wsX3_building_r6))))) ++ wsX30 ++ wsX00 ++ wsX20 ++ wsX10)
def wsX3_endSteps : List Cond := .code yX3_endSteps cX3_endSteps 1 none :: ([.fieldLink RX3 42 "DiagramBench" "keptCount" "I", .fieldLink RX3 33 "DiagramBench" "ofGate" "[I", .methodLink RX3 56 yJ7_fill_53178, .static yJ7_fill_53178, .initialized RJ7, .code yJ7_fill_53178 cJ7_fill_53178 4 none] ++ wsX30)
def wsX3_give_r1 : List Cond := [Cond.fieldLink RX3 29 "DiagramBench" "held" "[I", Cond.fieldLink RX3 25 "DiagramBench" "pool" "LDiagramBench$Pool;", Cond.methodLink RX3 188 yX3_endSteps, Cond.instanceMethod yX3_endSteps, Cond.selects RX3 yX3_endSteps yX3_endSteps, Cond.initialized RX3, Cond.code yX3_endSteps cX3_endSteps 1 none, Cond.fieldLink RX3 42 "DiagramBench" "keptCount" "I", Cond.fieldLink RX3 33 "DiagramBench" "ofGate" "[I", Cond.methodLink RX3 56 yJ7_fill_53178, Cond.static yJ7_fill_53178, Cond.initialized RJ7, Cond.code yJ7_fill_53178 cJ7_fill_53178 4 none, Cond.methodLink RX3 152 yX2_nodeCount, Cond.instanceMethod yX2_nodeCount, Cond.selects RX2 yX2_nodeCount yX2_nodeCount, Cond.initialized RX2, Cond.code yX2_nodeCount cX2_nodeCount 2 (some .int), Cond.methodLink RX2 53 yX2_unmark, Cond.instanceMethod yX2_unmark, Cond.selects RX2 yX2_unmark yX2_unmark, Cond.code yX2_unmark cX2_unmark 1 none, Cond.fieldLink RX2 21 "DiagramBench$Pool" "marks" "[I", Cond.methodLink RX2 43 yJ7_fill_53178]
def wsX3_give_r2 : List Cond := [Cond.methodLink RX2 56 yX2_mark, Cond.instanceMethod yX2_mark, Cond.selects RX2 yX2_mark yX2_mark, Cond.code yX2_mark cX2_mark 2 none, Cond.methodLink RX2 49 yX2_markWith, Cond.instanceMethod yX2_markWith, Cond.selects RX2 yX2_markWith yX2_markWith, Cond.code yX2_markWith cX2_markWith 4 none, Cond.fieldLink RX2 15 "DiagramBench$Pool" "lows" "[I", Cond.fieldLink RX2 18 "DiagramBench$Pool" "highs" "[I", Cond.methodLink RX2 60 yX2_markedWith, Cond.instanceMethod yX2_markedWith, Cond.selects RX2 yX2_markedWith yX2_markedWith, Cond.code yX2_markedWith cX2_markedWith 4 (some .int)]
def wsX3_give : List Cond := .code yX3_give cX3_give 3 (some .int) :: ((wsX3_give_r1 ++ wsX3_give_r2) ++ wsX30 ++ wsX20)
def wsX3_build_r1 : List Cond := [Cond.fieldLink RX3 11 "DiagramBench" "nets" "[LDiagramBench$Net;", Cond.methodLink RX3 123 yX3_isHandle, Cond.static yX3_isHandle, Cond.initialized RX3, Cond.code yX3_isHandle cX3_isHandle 1 (some .boolean), Cond.methodLink RX3 62 yX3_isNet, Cond.static yX3_isNet, Cond.code yX3_isNet cX3_isNet 1 (some .boolean), Cond.methodLink RX3 88 yX0_hasOutput, Cond.instanceMethod yX0_hasOutput, Cond.selects RX0 yX0_hasOutput yX0_hasOutput, Cond.initialized RX0, Cond.code yX0_hasOutput cX0_hasOutput 2 (some .boolean), Cond.fieldLink RX0 28 "DiagramBench$Net" "outputs" "I", Cond.methodLink RX3 126 yX3_beginSteps, Cond.instanceMethod yX3_beginSteps, Cond.selects RX3 yX3_beginSteps yX3_beginSteps, Cond.code yX3_beginSteps cX3_beginSteps 1 none, Cond.fieldLink RX3 46 "DiagramBench" "mostInUse" "I", Cond.methodLink RX3 129 yX3_building, Cond.instanceMethod yX3_building, Cond.selects RX3 yX3_building yX3_building, Cond.code yX3_building cX3_building 7 (some .int), Cond.fieldLink RX3 36 "DiagramBench" "lastNeed" "[I"]
def wsX3_build_r2 : List Cond := [Cond.fieldLink RX3 33 "DiagramBench" "ofGate" "[I", Cond.methodLink RX3 227 yX0_findNeeds, Cond.instanceMethod yX0_findNeeds, Cond.selects RX0 yX0_findNeeds yX0_findNeeds, Cond.code yX0_findNeeds cX0_findNeeds 5 (some .int), Cond.fieldLink RX0 18 "DiagramBench$Net" "outputGates" "[I", Cond.methodLink RX0 48 yJ7_fill_53178, Cond.static yJ7_fill_53178, Cond.initialized RJ7, Cond.code yJ7_fill_53178 cJ7_fill_53178 4 none, Cond.methodLink RX0 54 yX0_noteNeedsOf, Cond.instanceMethod yX0_noteNeedsOf, Cond.selects RX0 yX0_noteNeedsOf yX0_noteNeedsOf, Cond.code yX0_noteNeedsOf cX0_noteNeedsOf 5 none, Cond.fieldLink RX0 9 "DiagramBench$Net" "kinds" "[I", Cond.methodLink RX0 42 yX0_operand, Cond.instanceMethod yX0_operand, Cond.selects RX0 yX0_operand yX0_operand, Cond.code yX0_operand cX0_operand 3 (some .int), Cond.fieldLink RX0 15 "DiagramBench$Net" "operands" "[I", Cond.methodLink RX3 231 yX0_kindOf, Cond.instanceMethod yX0_kindOf, Cond.selects RX0 yX0_kindOf yX0_kindOf, Cond.code yX0_kindOf cX0_kindOf 2 (some .int)]
def wsX3_build_r3 : List Cond := [Cond.methodLink RX3 234 yX0_operand, Cond.methodLink RX3 136 yX3_variableStep, Cond.instanceMethod yX3_variableStep, Cond.selects RX3 yX3_variableStep yX3_variableStep, Cond.code yX3_variableStep cX3_variableStep 2 (some .int), Cond.fieldLink RX3 25 "DiagramBench" "pool" "LDiagramBench$Pool;", Cond.fieldLink RX3 18 "DiagramBench" "places" "LDiagramBench$Order;", Cond.methodLink RX3 155 yX3_collect, Cond.instanceMethod yX3_collect, Cond.selects RX3 yX3_collect yX3_collect, Cond.code yX3_collect cX3_collect 2 none, Cond.fieldLink RX3 29 "DiagramBench" "held" "[I", Cond.fieldLink RX3 42 "DiagramBench" "keptCount" "I", Cond.fieldLink RX3 39 "DiagramBench" "kept" "[I", Cond.methodLink RX3 217 yX2_unmark, Cond.instanceMethod yX2_unmark, Cond.selects RX2 yX2_unmark yX2_unmark, Cond.initialized RX2, Cond.code yX2_unmark cX2_unmark 1 none, Cond.fieldLink RX2 21 "DiagramBench$Pool" "marks" "[I", Cond.methodLink RX2 43 yJ7_fill_53178, Cond.methodLink RX3 220 yX2_mark, Cond.instanceMethod yX2_mark, Cond.selects RX2 yX2_mark yX2_mark]
def wsX3_build_r4 : List Cond := [Cond.code yX2_mark cX2_mark 2 none, Cond.methodLink RX2 49 yX2_markWith, Cond.instanceMethod yX2_markWith, Cond.selects RX2 yX2_markWith yX2_markWith, Cond.code yX2_markWith cX2_markWith 4 none, Cond.fieldLink RX2 15 "DiagramBench$Pool" "lows" "[I", Cond.fieldLink RX2 18 "DiagramBench$Pool" "highs" "[I", Cond.methodLink RX3 224 yX2_sweep, Cond.instanceMethod yX2_sweep, Cond.selects RX2 yX2_sweep yX2_sweep, Cond.code yX2_sweep cX2_sweep 2 none, Cond.fieldLink RX2 27 "DiagramBench$Pool" "rows" "[I", Cond.fieldLink RX2 30 "DiagramBench$Pool" "firstFree" "I", Cond.fieldLink RX2 34 "DiagramBench$Pool" "used" "I", Cond.fieldLink RX2 24 "DiagramBench$Pool" "next" "[I", Cond.methodLink RX2 64 yX2_enter, Cond.instanceMethod yX2_enter, Cond.selects RX2 yX2_enter yX2_enter, Cond.code yX2_enter cX2_enter 3 none, Cond.methodLink RX3 174 yX1_placeOf, Cond.instanceMethod yX1_placeOf, Cond.selects RX1 yX1_placeOf yX1_placeOf, Cond.initialized RX1, Cond.code yX1_placeOf cX1_placeOf 2 (some .int)]
def wsX3_build_r5 : List Cond := [Cond.fieldLink RX1 15 "DiagramBench$Order" "placesOf" "[I", Cond.methodLink RX3 206 yX2_makeVariable, Cond.instanceMethod yX2_makeVariable, Cond.selects RX2 yX2_makeVariable yX2_makeVariable, Cond.code yX2_makeVariable cX2_makeVariable 2 (some .int), Cond.methodLink RX2 67 yX2_nodeFor, Cond.instanceMethod yX2_nodeFor, Cond.selects RX2 yX2_nodeFor yX2_nodeFor, Cond.code yX2_nodeFor cX2_nodeFor 6 (some .int), Cond.fieldLink RX2 11 "DiagramBench$Pool" "places" "[I", Cond.fieldLink RX2 37 "DiagramBench$Pool" "most" "I", Cond.methodLink RX3 203 yX3_measured, Cond.instanceMethod yX3_measured, Cond.selects RX3 yX3_measured yX3_measured, Cond.code yX3_measured cX3_measured 3 (some .int), Cond.methodLink RX3 212 Lib.Math.max.name, Cond.static Lib.Math.max.name, Cond.initialized "java/lang/Math", Cond.code Lib.Math.max.name Lib.Math.max.code 2 (some .int), Cond.methodLink RX3 194 yX2_limit, Cond.instanceMethod yX2_limit, Cond.selects RX2 yX2_limit yX2_limit, Cond.code yX2_limit cX2_limit 1 (some .int), Cond.methodLink RX3 158 yX2_usedCount]
def wsX3_build_r6 : List Cond := [Cond.instanceMethod yX2_usedCount, Cond.selects RX2 yX2_usedCount yX2_usedCount, Cond.code yX2_usedCount cX2_usedCount 1 (some .int), Cond.methodLink RX3 237 yX3_madeFor, Cond.instanceMethod yX3_madeFor, Cond.selects RX3 yX3_madeFor yX3_madeFor, Cond.code yX3_madeFor cX3_madeFor 4 (some .int), Cond.fieldLink RX3 245 "DiagramBench" "OPERANDS" "[I", Cond.methodLink RX3 142 yX3_kindStep, Cond.instanceMethod yX3_kindStep, Cond.selects RX3 yX3_kindStep yX3_kindStep, Cond.code yX3_kindStep cX3_kindStep 5 (some .int), Cond.fieldLink RX3 197 "DiagramBench" "TABLES" "[I", Cond.methodLink RX3 200 yX2_make, Cond.instanceMethod yX2_make, Cond.selects RX2 yX2_make yX2_make, Cond.code yX2_make cX2_make 5 (some .int), Cond.methodLink RX2 71 yX2_makeFrom, Cond.instanceMethod yX2_makeFrom, Cond.selects RX2 yX2_makeFrom yX2_makeFrom, Cond.code yX2_makeFrom cX2_makeFrom 10 (some .int), Cond.methodLink RX2 79 Lib.Math.min.name, Cond.static Lib.Math.min.name, Cond.code Lib.Math.min.name Lib.Math.min.code 2 (some .int)]
def wsX3_build_r7 : List Cond := [Cond.methodLink RX2 75 yX2_knowing, Cond.static yX2_knowing, Cond.code yX2_knowing cX2_knowing 5 (some .int), Cond.methodLink RX2 85 yX2_lowAt, Cond.instanceMethod yX2_lowAt, Cond.selects RX2 yX2_lowAt yX2_lowAt, Cond.code yX2_lowAt cX2_lowAt 3 (some .int), Cond.methodLink RX2 88 yX2_highAt, Cond.instanceMethod yX2_highAt, Cond.selects RX2 yX2_highAt yX2_highAt, Cond.code yX2_highAt cX2_highAt 3 (some .int), Cond.methodLink RX3 241 yX3_letGoBehind, Cond.instanceMethod yX3_letGoBehind, Cond.selects RX3 yX3_letGoBehind yX3_letGoBehind, Cond.code yX3_letGoBehind cX3_letGoBehind 6 none, Cond.methodLink RX3 149 yX3_keep, Cond.instanceMethod yX3_keep, Cond.selects RX3 yX3_keep yX3_keep, Cond.code yX3_keep cX3_keep 2 (some .int), Cond.methodLink RX3 133 yX3_give, Cond.instanceMethod yX3_give, Cond.selects RX3 yX3_give yX3_give, Cond.code yX3_give cX3_give 3 (some .int), Cond.methodLink RX3 188 yX3_endSteps]
def wsX3_build_r8 : List Cond := [Cond.instanceMethod yX3_endSteps, Cond.selects RX3 yX3_endSteps yX3_endSteps, Cond.code yX3_endSteps cX3_endSteps 1 none, Cond.methodLink RX3 56 yJ7_fill_53178, Cond.methodLink RX3 152 yX2_nodeCount, Cond.instanceMethod yX2_nodeCount, Cond.selects RX2 yX2_nodeCount yX2_nodeCount, Cond.code yX2_nodeCount cX2_nodeCount 2 (some .int), Cond.methodLink RX2 53 yX2_unmark, Cond.methodLink RX2 56 yX2_mark, Cond.methodLink RX2 60 yX2_markedWith, Cond.instanceMethod yX2_markedWith, Cond.selects RX2 yX2_markedWith yX2_markedWith, Cond.code yX2_markedWith cX2_markedWith 4 (some .int)]
def wsX3_build : List Cond := .code yX3_build cX3_build 4 (some .int) :: ((wsX3_build_r1 ++ (wsX3_build_r2 ++ (wsX3_build_r3 ++ (wsX3_build_r4 ++ (wsX3_build_r5 ++ (wsX3_build_r6 ++ (wsX3_build_r7 ++ wsX3_build_r8))))))) ++ wsX30 ++ wsX00 ++ wsX20 ++ wsX10)
def wsX3_variable_r1 : List Cond := [Cond.methodLink RX3 123 yX3_isHandle, Cond.static yX3_isHandle, Cond.initialized RX3, Cond.code yX3_isHandle cX3_isHandle 1 (some .boolean), Cond.methodLink RX3 70 yX3_isVariable, Cond.static yX3_isVariable, Cond.code yX3_isVariable cX3_isVariable 1 (some .boolean), Cond.methodLink RX3 126 yX3_beginSteps, Cond.instanceMethod yX3_beginSteps, Cond.selects RX3 yX3_beginSteps yX3_beginSteps, Cond.code yX3_beginSteps cX3_beginSteps 1 none, Cond.fieldLink RX3 46 "DiagramBench" "mostInUse" "I", Cond.methodLink RX3 136 yX3_variableStep, Cond.instanceMethod yX3_variableStep, Cond.selects RX3 yX3_variableStep yX3_variableStep, Cond.code yX3_variableStep cX3_variableStep 2 (some .int), Cond.fieldLink RX3 25 "DiagramBench" "pool" "LDiagramBench$Pool;", Cond.fieldLink RX3 18 "DiagramBench" "places" "LDiagramBench$Order;", Cond.methodLink RX3 155 yX3_collect, Cond.instanceMethod yX3_collect, Cond.selects RX3 yX3_collect yX3_collect, Cond.code yX3_collect cX3_collect 2 none, Cond.fieldLink RX3 29 "DiagramBench" "held" "[I", Cond.fieldLink RX3 33 "DiagramBench" "ofGate" "[I"]
def wsX3_variable_r2 : List Cond := [Cond.fieldLink RX3 42 "DiagramBench" "keptCount" "I", Cond.fieldLink RX3 39 "DiagramBench" "kept" "[I", Cond.methodLink RX3 217 yX2_unmark, Cond.instanceMethod yX2_unmark, Cond.selects RX2 yX2_unmark yX2_unmark, Cond.initialized RX2, Cond.code yX2_unmark cX2_unmark 1 none, Cond.fieldLink RX2 21 "DiagramBench$Pool" "marks" "[I", Cond.methodLink RX2 43 yJ7_fill_53178, Cond.static yJ7_fill_53178, Cond.initialized RJ7, Cond.code yJ7_fill_53178 cJ7_fill_53178 4 none, Cond.methodLink RX3 220 yX2_mark, Cond.instanceMethod yX2_mark, Cond.selects RX2 yX2_mark yX2_mark, Cond.code yX2_mark cX2_mark 2 none, Cond.methodLink RX2 49 yX2_markWith, Cond.instanceMethod yX2_markWith, Cond.selects RX2 yX2_markWith yX2_markWith, Cond.code yX2_markWith cX2_markWith 4 none, Cond.fieldLink RX2 15 "DiagramBench$Pool" "lows" "[I", Cond.fieldLink RX2 18 "DiagramBench$Pool" "highs" "[I", Cond.methodLink RX3 224 yX2_sweep, Cond.instanceMethod yX2_sweep]
def wsX3_variable_r3 : List Cond := [Cond.selects RX2 yX2_sweep yX2_sweep, Cond.code yX2_sweep cX2_sweep 2 none, Cond.fieldLink RX2 27 "DiagramBench$Pool" "rows" "[I", Cond.fieldLink RX2 30 "DiagramBench$Pool" "firstFree" "I", Cond.fieldLink RX2 34 "DiagramBench$Pool" "used" "I", Cond.fieldLink RX2 24 "DiagramBench$Pool" "next" "[I", Cond.methodLink RX2 64 yX2_enter, Cond.instanceMethod yX2_enter, Cond.selects RX2 yX2_enter yX2_enter, Cond.code yX2_enter cX2_enter 3 none, Cond.methodLink RX3 174 yX1_placeOf, Cond.instanceMethod yX1_placeOf, Cond.selects RX1 yX1_placeOf yX1_placeOf, Cond.initialized RX1, Cond.code yX1_placeOf cX1_placeOf 2 (some .int), Cond.fieldLink RX1 15 "DiagramBench$Order" "placesOf" "[I", Cond.methodLink RX3 206 yX2_makeVariable, Cond.instanceMethod yX2_makeVariable, Cond.selects RX2 yX2_makeVariable yX2_makeVariable, Cond.code yX2_makeVariable cX2_makeVariable 2 (some .int), Cond.methodLink RX2 67 yX2_nodeFor, Cond.instanceMethod yX2_nodeFor, Cond.selects RX2 yX2_nodeFor yX2_nodeFor, Cond.code yX2_nodeFor cX2_nodeFor 6 (some .int)]
def wsX3_variable_r4 : List Cond := [Cond.fieldLink RX2 11 "DiagramBench$Pool" "places" "[I", Cond.fieldLink RX2 37 "DiagramBench$Pool" "most" "I", Cond.methodLink RX3 203 yX3_measured, Cond.instanceMethod yX3_measured, Cond.selects RX3 yX3_measured yX3_measured, Cond.code yX3_measured cX3_measured 3 (some .int), Cond.methodLink RX3 212 Lib.Math.max.name, Cond.static Lib.Math.max.name, Cond.initialized "java/lang/Math", Cond.code Lib.Math.max.name Lib.Math.max.code 2 (some .int), Cond.methodLink RX3 194 yX2_limit, Cond.instanceMethod yX2_limit, Cond.selects RX2 yX2_limit yX2_limit, Cond.code yX2_limit cX2_limit 1 (some .int), Cond.methodLink RX3 158 yX2_usedCount, Cond.instanceMethod yX2_usedCount, Cond.selects RX2 yX2_usedCount yX2_usedCount, Cond.code yX2_usedCount cX2_usedCount 1 (some .int), Cond.methodLink RX3 133 yX3_give, Cond.instanceMethod yX3_give, Cond.selects RX3 yX3_give yX3_give, Cond.code yX3_give cX3_give 3 (some .int), Cond.methodLink RX3 188 yX3_endSteps, Cond.instanceMethod yX3_endSteps]
def wsX3_variable_r5 : List Cond := [Cond.selects RX3 yX3_endSteps yX3_endSteps, Cond.code yX3_endSteps cX3_endSteps 1 none, Cond.methodLink RX3 56 yJ7_fill_53178, Cond.methodLink RX3 152 yX2_nodeCount, Cond.instanceMethod yX2_nodeCount, Cond.selects RX2 yX2_nodeCount yX2_nodeCount, Cond.code yX2_nodeCount cX2_nodeCount 2 (some .int), Cond.methodLink RX2 53 yX2_unmark, Cond.methodLink RX2 56 yX2_mark, Cond.methodLink RX2 60 yX2_markedWith, Cond.instanceMethod yX2_markedWith, Cond.selects RX2 yX2_markedWith yX2_markedWith, Cond.code yX2_markedWith cX2_markedWith 4 (some .int)]
def wsX3_variable : List Cond := .code yX3_variable cX3_variable 3 (some .int) :: ((wsX3_variable_r1 ++ (wsX3_variable_r2 ++ (wsX3_variable_r3 ++ (wsX3_variable_r4 ++ wsX3_variable_r5)))) ++ wsX30 ++ wsX20 ++ wsX10)
def wsX3_hasFunction : List Cond := .code yX3_hasFunction cX3_hasFunction 2 (some .boolean) :: ([.fieldLink RX3 29 "DiagramBench" "held" "[I", .methodLink RX3 123 yX3_isHandle, .static yX3_isHandle, .initialized RX3, .code yX3_isHandle cX3_isHandle 1 (some .boolean)] ++ wsX30)
def wsX3_combine_r1 : List Cond := [Cond.fieldLink RX3 29 "DiagramBench" "held" "[I", Cond.methodLink RX3 123 yX3_isHandle, Cond.static yX3_isHandle, Cond.initialized RX3, Cond.code yX3_isHandle cX3_isHandle 1 (some .boolean), Cond.methodLink RX3 139 yX3_hasFunction, Cond.instanceMethod yX3_hasFunction, Cond.selects RX3 yX3_hasFunction yX3_hasFunction, Cond.code yX3_hasFunction cX3_hasFunction 2 (some .boolean), Cond.methodLink RX3 126 yX3_beginSteps, Cond.instanceMethod yX3_beginSteps, Cond.selects RX3 yX3_beginSteps yX3_beginSteps, Cond.code yX3_beginSteps cX3_beginSteps 1 none, Cond.fieldLink RX3 46 "DiagramBench" "mostInUse" "I", Cond.methodLink RX3 142 yX3_kindStep, Cond.instanceMethod yX3_kindStep, Cond.selects RX3 yX3_kindStep yX3_kindStep, Cond.code yX3_kindStep cX3_kindStep 5 (some .int), Cond.fieldLink RX3 25 "DiagramBench" "pool" "LDiagramBench$Pool;", Cond.fieldLink RX3 197 "DiagramBench" "TABLES" "[I", Cond.methodLink RX3 155 yX3_collect, Cond.instanceMethod yX3_collect, Cond.selects RX3 yX3_collect yX3_collect, Cond.code yX3_collect cX3_collect 2 none]
def wsX3_combine_r2 : List Cond := [Cond.fieldLink RX3 33 "DiagramBench" "ofGate" "[I", Cond.fieldLink RX3 42 "DiagramBench" "keptCount" "I", Cond.fieldLink RX3 39 "DiagramBench" "kept" "[I", Cond.methodLink RX3 217 yX2_unmark, Cond.instanceMethod yX2_unmark, Cond.selects RX2 yX2_unmark yX2_unmark, Cond.initialized RX2, Cond.code yX2_unmark cX2_unmark 1 none, Cond.fieldLink RX2 21 "DiagramBench$Pool" "marks" "[I", Cond.methodLink RX2 43 yJ7_fill_53178, Cond.static yJ7_fill_53178, Cond.initialized RJ7, Cond.code yJ7_fill_53178 cJ7_fill_53178 4 none, Cond.methodLink RX3 220 yX2_mark, Cond.instanceMethod yX2_mark, Cond.selects RX2 yX2_mark yX2_mark, Cond.code yX2_mark cX2_mark 2 none, Cond.methodLink RX2 49 yX2_markWith, Cond.instanceMethod yX2_markWith, Cond.selects RX2 yX2_markWith yX2_markWith, Cond.code yX2_markWith cX2_markWith 4 none, Cond.fieldLink RX2 15 "DiagramBench$Pool" "lows" "[I", Cond.fieldLink RX2 18 "DiagramBench$Pool" "highs" "[I", Cond.methodLink RX3 224 yX2_sweep]
def wsX3_combine_r3 : List Cond := [Cond.instanceMethod yX2_sweep, Cond.selects RX2 yX2_sweep yX2_sweep, Cond.code yX2_sweep cX2_sweep 2 none, Cond.fieldLink RX2 27 "DiagramBench$Pool" "rows" "[I", Cond.fieldLink RX2 30 "DiagramBench$Pool" "firstFree" "I", Cond.fieldLink RX2 34 "DiagramBench$Pool" "used" "I", Cond.fieldLink RX2 24 "DiagramBench$Pool" "next" "[I", Cond.methodLink RX2 64 yX2_enter, Cond.instanceMethod yX2_enter, Cond.selects RX2 yX2_enter yX2_enter, Cond.code yX2_enter cX2_enter 3 none, Cond.methodLink RX3 200 yX2_make, Cond.instanceMethod yX2_make, Cond.selects RX2 yX2_make yX2_make, Cond.code yX2_make cX2_make 5 (some .int), Cond.methodLink RX2 71 yX2_makeFrom, Cond.instanceMethod yX2_makeFrom, Cond.selects RX2 yX2_makeFrom yX2_makeFrom, Cond.code yX2_makeFrom cX2_makeFrom 10 (some .int), Cond.fieldLink RX2 11 "DiagramBench$Pool" "places" "[I", Cond.methodLink RX2 79 Lib.Math.min.name, Cond.static Lib.Math.min.name, Cond.initialized "java/lang/Math", Cond.code Lib.Math.min.name Lib.Math.min.code 2 (some .int)]
def wsX3_combine_r4 : List Cond := [Cond.methodLink RX2 75 yX2_knowing, Cond.static yX2_knowing, Cond.code yX2_knowing cX2_knowing 5 (some .int), Cond.methodLink RX2 85 yX2_lowAt, Cond.instanceMethod yX2_lowAt, Cond.selects RX2 yX2_lowAt yX2_lowAt, Cond.code yX2_lowAt cX2_lowAt 3 (some .int), Cond.methodLink RX2 88 yX2_highAt, Cond.instanceMethod yX2_highAt, Cond.selects RX2 yX2_highAt yX2_highAt, Cond.code yX2_highAt cX2_highAt 3 (some .int), Cond.methodLink RX2 67 yX2_nodeFor, Cond.instanceMethod yX2_nodeFor, Cond.selects RX2 yX2_nodeFor yX2_nodeFor, Cond.code yX2_nodeFor cX2_nodeFor 6 (some .int), Cond.fieldLink RX2 37 "DiagramBench$Pool" "most" "I", Cond.methodLink RX3 203 yX3_measured, Cond.instanceMethod yX3_measured, Cond.selects RX3 yX3_measured yX3_measured, Cond.code yX3_measured cX3_measured 3 (some .int), Cond.methodLink RX3 212 Lib.Math.max.name, Cond.static Lib.Math.max.name, Cond.code Lib.Math.max.name Lib.Math.max.code 2 (some .int), Cond.methodLink RX3 194 yX2_limit]
def wsX3_combine_r5 : List Cond := [Cond.instanceMethod yX2_limit, Cond.selects RX2 yX2_limit yX2_limit, Cond.code yX2_limit cX2_limit 1 (some .int), Cond.methodLink RX3 158 yX2_usedCount, Cond.instanceMethod yX2_usedCount, Cond.selects RX2 yX2_usedCount yX2_usedCount, Cond.code yX2_usedCount cX2_usedCount 1 (some .int), Cond.methodLink RX3 133 yX3_give, Cond.instanceMethod yX3_give, Cond.selects RX3 yX3_give yX3_give, Cond.code yX3_give cX3_give 3 (some .int), Cond.methodLink RX3 188 yX3_endSteps, Cond.instanceMethod yX3_endSteps, Cond.selects RX3 yX3_endSteps yX3_endSteps, Cond.code yX3_endSteps cX3_endSteps 1 none, Cond.methodLink RX3 56 yJ7_fill_53178, Cond.methodLink RX3 152 yX2_nodeCount, Cond.instanceMethod yX2_nodeCount, Cond.selects RX2 yX2_nodeCount yX2_nodeCount, Cond.code yX2_nodeCount cX2_nodeCount 2 (some .int), Cond.methodLink RX2 53 yX2_unmark, Cond.methodLink RX2 56 yX2_mark, Cond.methodLink RX2 60 yX2_markedWith, Cond.instanceMethod yX2_markedWith]
def wsX3_combine_r6 : List Cond := [Cond.selects RX2 yX2_markedWith yX2_markedWith, Cond.code yX2_markedWith cX2_markedWith 4 (some .int)]
def wsX3_combine : List Cond := .code yX3_combine cX3_combine 7 (some .int) :: ((wsX3_combine_r1 ++ (wsX3_combine_r2 ++ (wsX3_combine_r3 ++ (wsX3_combine_r4 ++ (wsX3_combine_r5 ++ wsX3_combine_r6))))) ++ wsX30 ++ wsX20)
def wsX3_choose_r1 : List Cond := [Cond.fieldLink RX3 29 "DiagramBench" "held" "[I", Cond.methodLink RX3 123 yX3_isHandle, Cond.static yX3_isHandle, Cond.initialized RX3, Cond.code yX3_isHandle cX3_isHandle 1 (some .boolean), Cond.methodLink RX3 139 yX3_hasFunction, Cond.instanceMethod yX3_hasFunction, Cond.selects RX3 yX3_hasFunction yX3_hasFunction, Cond.code yX3_hasFunction cX3_hasFunction 2 (some .boolean), Cond.methodLink RX3 126 yX3_beginSteps, Cond.instanceMethod yX3_beginSteps, Cond.selects RX3 yX3_beginSteps yX3_beginSteps, Cond.code yX3_beginSteps cX3_beginSteps 1 none, Cond.fieldLink RX3 46 "DiagramBench" "mostInUse" "I", Cond.methodLink RX3 142 yX3_kindStep, Cond.instanceMethod yX3_kindStep, Cond.selects RX3 yX3_kindStep yX3_kindStep, Cond.code yX3_kindStep cX3_kindStep 5 (some .int), Cond.fieldLink RX3 25 "DiagramBench" "pool" "LDiagramBench$Pool;", Cond.fieldLink RX3 197 "DiagramBench" "TABLES" "[I", Cond.methodLink RX3 155 yX3_collect, Cond.instanceMethod yX3_collect, Cond.selects RX3 yX3_collect yX3_collect, Cond.code yX3_collect cX3_collect 2 none]
def wsX3_choose_r2 : List Cond := [Cond.fieldLink RX3 33 "DiagramBench" "ofGate" "[I", Cond.fieldLink RX3 42 "DiagramBench" "keptCount" "I", Cond.fieldLink RX3 39 "DiagramBench" "kept" "[I", Cond.methodLink RX3 217 yX2_unmark, Cond.instanceMethod yX2_unmark, Cond.selects RX2 yX2_unmark yX2_unmark, Cond.initialized RX2, Cond.code yX2_unmark cX2_unmark 1 none, Cond.fieldLink RX2 21 "DiagramBench$Pool" "marks" "[I", Cond.methodLink RX2 43 yJ7_fill_53178, Cond.static yJ7_fill_53178, Cond.initialized RJ7, Cond.code yJ7_fill_53178 cJ7_fill_53178 4 none, Cond.methodLink RX3 220 yX2_mark, Cond.instanceMethod yX2_mark, Cond.selects RX2 yX2_mark yX2_mark, Cond.code yX2_mark cX2_mark 2 none, Cond.methodLink RX2 49 yX2_markWith, Cond.instanceMethod yX2_markWith, Cond.selects RX2 yX2_markWith yX2_markWith, Cond.code yX2_markWith cX2_markWith 4 none, Cond.fieldLink RX2 15 "DiagramBench$Pool" "lows" "[I", Cond.fieldLink RX2 18 "DiagramBench$Pool" "highs" "[I", Cond.methodLink RX3 224 yX2_sweep]
def wsX3_choose_r3 : List Cond := [Cond.instanceMethod yX2_sweep, Cond.selects RX2 yX2_sweep yX2_sweep, Cond.code yX2_sweep cX2_sweep 2 none, Cond.fieldLink RX2 27 "DiagramBench$Pool" "rows" "[I", Cond.fieldLink RX2 30 "DiagramBench$Pool" "firstFree" "I", Cond.fieldLink RX2 34 "DiagramBench$Pool" "used" "I", Cond.fieldLink RX2 24 "DiagramBench$Pool" "next" "[I", Cond.methodLink RX2 64 yX2_enter, Cond.instanceMethod yX2_enter, Cond.selects RX2 yX2_enter yX2_enter, Cond.code yX2_enter cX2_enter 3 none, Cond.methodLink RX3 200 yX2_make, Cond.instanceMethod yX2_make, Cond.selects RX2 yX2_make yX2_make, Cond.code yX2_make cX2_make 5 (some .int), Cond.methodLink RX2 71 yX2_makeFrom, Cond.instanceMethod yX2_makeFrom, Cond.selects RX2 yX2_makeFrom yX2_makeFrom, Cond.code yX2_makeFrom cX2_makeFrom 10 (some .int), Cond.fieldLink RX2 11 "DiagramBench$Pool" "places" "[I", Cond.methodLink RX2 79 Lib.Math.min.name, Cond.static Lib.Math.min.name, Cond.initialized "java/lang/Math", Cond.code Lib.Math.min.name Lib.Math.min.code 2 (some .int)]
def wsX3_choose_r4 : List Cond := [Cond.methodLink RX2 75 yX2_knowing, Cond.static yX2_knowing, Cond.code yX2_knowing cX2_knowing 5 (some .int), Cond.methodLink RX2 85 yX2_lowAt, Cond.instanceMethod yX2_lowAt, Cond.selects RX2 yX2_lowAt yX2_lowAt, Cond.code yX2_lowAt cX2_lowAt 3 (some .int), Cond.methodLink RX2 88 yX2_highAt, Cond.instanceMethod yX2_highAt, Cond.selects RX2 yX2_highAt yX2_highAt, Cond.code yX2_highAt cX2_highAt 3 (some .int), Cond.methodLink RX2 67 yX2_nodeFor, Cond.instanceMethod yX2_nodeFor, Cond.selects RX2 yX2_nodeFor yX2_nodeFor, Cond.code yX2_nodeFor cX2_nodeFor 6 (some .int), Cond.fieldLink RX2 37 "DiagramBench$Pool" "most" "I", Cond.methodLink RX3 203 yX3_measured, Cond.instanceMethod yX3_measured, Cond.selects RX3 yX3_measured yX3_measured, Cond.code yX3_measured cX3_measured 3 (some .int), Cond.methodLink RX3 212 Lib.Math.max.name, Cond.static Lib.Math.max.name, Cond.code Lib.Math.max.name Lib.Math.max.code 2 (some .int), Cond.methodLink RX3 194 yX2_limit]
def wsX3_choose_r5 : List Cond := [Cond.instanceMethod yX2_limit, Cond.selects RX2 yX2_limit yX2_limit, Cond.code yX2_limit cX2_limit 1 (some .int), Cond.methodLink RX3 158 yX2_usedCount, Cond.instanceMethod yX2_usedCount, Cond.selects RX2 yX2_usedCount yX2_usedCount, Cond.code yX2_usedCount cX2_usedCount 1 (some .int), Cond.methodLink RX3 133 yX3_give, Cond.instanceMethod yX3_give, Cond.selects RX3 yX3_give yX3_give, Cond.code yX3_give cX3_give 3 (some .int), Cond.methodLink RX3 188 yX3_endSteps, Cond.instanceMethod yX3_endSteps, Cond.selects RX3 yX3_endSteps yX3_endSteps, Cond.code yX3_endSteps cX3_endSteps 1 none, Cond.methodLink RX3 56 yJ7_fill_53178, Cond.methodLink RX3 152 yX2_nodeCount, Cond.instanceMethod yX2_nodeCount, Cond.selects RX2 yX2_nodeCount yX2_nodeCount, Cond.code yX2_nodeCount cX2_nodeCount 2 (some .int), Cond.methodLink RX2 53 yX2_unmark, Cond.methodLink RX2 56 yX2_mark, Cond.methodLink RX2 60 yX2_markedWith, Cond.instanceMethod yX2_markedWith]
def wsX3_choose_r6 : List Cond := [Cond.selects RX2 yX2_markedWith yX2_markedWith, Cond.code yX2_markedWith cX2_markedWith 4 (some .int)]
def wsX3_choose : List Cond := .code yX3_choose cX3_choose 5 (some .int) :: ((wsX3_choose_r1 ++ (wsX3_choose_r2 ++ (wsX3_choose_r3 ++ (wsX3_choose_r4 ++ (wsX3_choose_r5 ++ wsX3_choose_r6))))) ++ wsX30 ++ wsX20)
def wsX3_fixStep_r1 : List Cond := [Cond.fieldLink RX3 25 "DiagramBench" "pool" "LDiagramBench$Pool;", Cond.fieldLink RX3 18 "DiagramBench" "places" "LDiagramBench$Order;", Cond.methodLink RX3 155 yX3_collect, Cond.instanceMethod yX3_collect, Cond.selects RX3 yX3_collect yX3_collect, Cond.initialized RX3, Cond.code yX3_collect cX3_collect 2 none, Cond.fieldLink RX3 29 "DiagramBench" "held" "[I", Cond.fieldLink RX3 33 "DiagramBench" "ofGate" "[I", Cond.fieldLink RX3 42 "DiagramBench" "keptCount" "I", Cond.fieldLink RX3 39 "DiagramBench" "kept" "[I", Cond.methodLink RX3 217 yX2_unmark, Cond.instanceMethod yX2_unmark, Cond.selects RX2 yX2_unmark yX2_unmark, Cond.initialized RX2, Cond.code yX2_unmark cX2_unmark 1 none, Cond.fieldLink RX2 21 "DiagramBench$Pool" "marks" "[I", Cond.methodLink RX2 43 yJ7_fill_53178, Cond.static yJ7_fill_53178, Cond.initialized RJ7, Cond.code yJ7_fill_53178 cJ7_fill_53178 4 none, Cond.methodLink RX3 220 yX2_mark, Cond.instanceMethod yX2_mark, Cond.selects RX2 yX2_mark yX2_mark]
def wsX3_fixStep_r2 : List Cond := [Cond.code yX2_mark cX2_mark 2 none, Cond.methodLink RX2 49 yX2_markWith, Cond.instanceMethod yX2_markWith, Cond.selects RX2 yX2_markWith yX2_markWith, Cond.code yX2_markWith cX2_markWith 4 none, Cond.fieldLink RX2 15 "DiagramBench$Pool" "lows" "[I", Cond.fieldLink RX2 18 "DiagramBench$Pool" "highs" "[I", Cond.methodLink RX3 224 yX2_sweep, Cond.instanceMethod yX2_sweep, Cond.selects RX2 yX2_sweep yX2_sweep, Cond.code yX2_sweep cX2_sweep 2 none, Cond.fieldLink RX2 27 "DiagramBench$Pool" "rows" "[I", Cond.fieldLink RX2 30 "DiagramBench$Pool" "firstFree" "I", Cond.fieldLink RX2 34 "DiagramBench$Pool" "used" "I", Cond.fieldLink RX2 24 "DiagramBench$Pool" "next" "[I", Cond.methodLink RX2 64 yX2_enter, Cond.instanceMethod yX2_enter, Cond.selects RX2 yX2_enter yX2_enter, Cond.code yX2_enter cX2_enter 3 none, Cond.methodLink RX3 174 yX1_placeOf, Cond.instanceMethod yX1_placeOf, Cond.selects RX1 yX1_placeOf yX1_placeOf, Cond.initialized RX1, Cond.code yX1_placeOf cX1_placeOf 2 (some .int)]
def wsX3_fixStep_r3 : List Cond := [Cond.fieldLink RX1 15 "DiagramBench$Order" "placesOf" "[I", Cond.methodLink RX3 209 yX2_makeFixed, Cond.instanceMethod yX2_makeFixed, Cond.selects RX2 yX2_makeFixed yX2_makeFixed, Cond.code yX2_makeFixed cX2_makeFixed 4 (some .int), Cond.methodLink RX2 91 yX2_fixFrom, Cond.instanceMethod yX2_fixFrom, Cond.selects RX2 yX2_fixFrom yX2_fixFrom, Cond.code yX2_fixFrom cX2_fixFrom 7 (some .int), Cond.fieldLink RX2 11 "DiagramBench$Pool" "places" "[I", Cond.methodLink RX2 67 yX2_nodeFor, Cond.instanceMethod yX2_nodeFor, Cond.selects RX2 yX2_nodeFor yX2_nodeFor, Cond.code yX2_nodeFor cX2_nodeFor 6 (some .int), Cond.fieldLink RX2 37 "DiagramBench$Pool" "most" "I", Cond.methodLink RX3 203 yX3_measured, Cond.instanceMethod yX3_measured, Cond.selects RX3 yX3_measured yX3_measured, Cond.code yX3_measured cX3_measured 3 (some .int), Cond.fieldLink RX3 46 "DiagramBench" "mostInUse" "I", Cond.methodLink RX3 212 Lib.Math.max.name, Cond.static Lib.Math.max.name, Cond.initialized "java/lang/Math", Cond.code Lib.Math.max.name Lib.Math.max.code 2 (some .int)]
def wsX3_fixStep_r4 : List Cond := [Cond.methodLink RX3 194 yX2_limit, Cond.instanceMethod yX2_limit, Cond.selects RX2 yX2_limit yX2_limit, Cond.code yX2_limit cX2_limit 1 (some .int), Cond.methodLink RX3 158 yX2_usedCount, Cond.instanceMethod yX2_usedCount, Cond.selects RX2 yX2_usedCount yX2_usedCount, Cond.code yX2_usedCount cX2_usedCount 1 (some .int)]
def wsX3_fixStep : List Cond := .code yX3_fixStep cX3_fixStep 4 (some .int) :: ((wsX3_fixStep_r1 ++ (wsX3_fixStep_r2 ++ (wsX3_fixStep_r3 ++ wsX3_fixStep_r4))) ++ wsX30 ++ wsX20 ++ wsX10)
def wsX3_restrict_r1 : List Cond := [Cond.fieldLink RX3 29 "DiagramBench" "held" "[I", Cond.methodLink RX3 123 yX3_isHandle, Cond.static yX3_isHandle, Cond.initialized RX3, Cond.code yX3_isHandle cX3_isHandle 1 (some .boolean), Cond.methodLink RX3 139 yX3_hasFunction, Cond.instanceMethod yX3_hasFunction, Cond.selects RX3 yX3_hasFunction yX3_hasFunction, Cond.code yX3_hasFunction cX3_hasFunction 2 (some .boolean), Cond.methodLink RX3 70 yX3_isVariable, Cond.static yX3_isVariable, Cond.code yX3_isVariable cX3_isVariable 1 (some .boolean), Cond.methodLink RX3 126 yX3_beginSteps, Cond.instanceMethod yX3_beginSteps, Cond.selects RX3 yX3_beginSteps yX3_beginSteps, Cond.code yX3_beginSteps cX3_beginSteps 1 none, Cond.fieldLink RX3 46 "DiagramBench" "mostInUse" "I", Cond.methodLink RX3 145 yX3_fixStep, Cond.instanceMethod yX3_fixStep, Cond.selects RX3 yX3_fixStep yX3_fixStep, Cond.code yX3_fixStep cX3_fixStep 4 (some .int), Cond.fieldLink RX3 25 "DiagramBench" "pool" "LDiagramBench$Pool;", Cond.fieldLink RX3 18 "DiagramBench" "places" "LDiagramBench$Order;", Cond.methodLink RX3 155 yX3_collect]
def wsX3_restrict_r2 : List Cond := [Cond.instanceMethod yX3_collect, Cond.selects RX3 yX3_collect yX3_collect, Cond.code yX3_collect cX3_collect 2 none, Cond.fieldLink RX3 33 "DiagramBench" "ofGate" "[I", Cond.fieldLink RX3 42 "DiagramBench" "keptCount" "I", Cond.fieldLink RX3 39 "DiagramBench" "kept" "[I", Cond.methodLink RX3 217 yX2_unmark, Cond.instanceMethod yX2_unmark, Cond.selects RX2 yX2_unmark yX2_unmark, Cond.initialized RX2, Cond.code yX2_unmark cX2_unmark 1 none, Cond.fieldLink RX2 21 "DiagramBench$Pool" "marks" "[I", Cond.methodLink RX2 43 yJ7_fill_53178, Cond.static yJ7_fill_53178, Cond.initialized RJ7, Cond.code yJ7_fill_53178 cJ7_fill_53178 4 none, Cond.methodLink RX3 220 yX2_mark, Cond.instanceMethod yX2_mark, Cond.selects RX2 yX2_mark yX2_mark, Cond.code yX2_mark cX2_mark 2 none, Cond.methodLink RX2 49 yX2_markWith, Cond.instanceMethod yX2_markWith, Cond.selects RX2 yX2_markWith yX2_markWith, Cond.code yX2_markWith cX2_markWith 4 none]
def wsX3_restrict_r3 : List Cond := [Cond.fieldLink RX2 15 "DiagramBench$Pool" "lows" "[I", Cond.fieldLink RX2 18 "DiagramBench$Pool" "highs" "[I", Cond.methodLink RX3 224 yX2_sweep, Cond.instanceMethod yX2_sweep, Cond.selects RX2 yX2_sweep yX2_sweep, Cond.code yX2_sweep cX2_sweep 2 none, Cond.fieldLink RX2 27 "DiagramBench$Pool" "rows" "[I", Cond.fieldLink RX2 30 "DiagramBench$Pool" "firstFree" "I", Cond.fieldLink RX2 34 "DiagramBench$Pool" "used" "I", Cond.fieldLink RX2 24 "DiagramBench$Pool" "next" "[I", Cond.methodLink RX2 64 yX2_enter, Cond.instanceMethod yX2_enter, Cond.selects RX2 yX2_enter yX2_enter, Cond.code yX2_enter cX2_enter 3 none, Cond.methodLink RX3 174 yX1_placeOf, Cond.instanceMethod yX1_placeOf, Cond.selects RX1 yX1_placeOf yX1_placeOf, Cond.initialized RX1, Cond.code yX1_placeOf cX1_placeOf 2 (some .int), Cond.fieldLink RX1 15 "DiagramBench$Order" "placesOf" "[I", Cond.methodLink RX3 209 yX2_makeFixed, Cond.instanceMethod yX2_makeFixed, Cond.selects RX2 yX2_makeFixed yX2_makeFixed, Cond.code yX2_makeFixed cX2_makeFixed 4 (some .int)]
def wsX3_restrict_r4 : List Cond := [Cond.methodLink RX2 91 yX2_fixFrom, Cond.instanceMethod yX2_fixFrom, Cond.selects RX2 yX2_fixFrom yX2_fixFrom, Cond.code yX2_fixFrom cX2_fixFrom 7 (some .int), Cond.fieldLink RX2 11 "DiagramBench$Pool" "places" "[I", Cond.methodLink RX2 67 yX2_nodeFor, Cond.instanceMethod yX2_nodeFor, Cond.selects RX2 yX2_nodeFor yX2_nodeFor, Cond.code yX2_nodeFor cX2_nodeFor 6 (some .int), Cond.fieldLink RX2 37 "DiagramBench$Pool" "most" "I", Cond.methodLink RX3 203 yX3_measured, Cond.instanceMethod yX3_measured, Cond.selects RX3 yX3_measured yX3_measured, Cond.code yX3_measured cX3_measured 3 (some .int), Cond.methodLink RX3 212 Lib.Math.max.name, Cond.static Lib.Math.max.name, Cond.initialized "java/lang/Math", Cond.code Lib.Math.max.name Lib.Math.max.code 2 (some .int), Cond.methodLink RX3 194 yX2_limit, Cond.instanceMethod yX2_limit, Cond.selects RX2 yX2_limit yX2_limit, Cond.code yX2_limit cX2_limit 1 (some .int), Cond.methodLink RX3 158 yX2_usedCount, Cond.instanceMethod yX2_usedCount]
def wsX3_restrict_r5 : List Cond := [Cond.selects RX2 yX2_usedCount yX2_usedCount, Cond.code yX2_usedCount cX2_usedCount 1 (some .int), Cond.methodLink RX3 133 yX3_give, Cond.instanceMethod yX3_give, Cond.selects RX3 yX3_give yX3_give, Cond.code yX3_give cX3_give 3 (some .int), Cond.methodLink RX3 188 yX3_endSteps, Cond.instanceMethod yX3_endSteps, Cond.selects RX3 yX3_endSteps yX3_endSteps, Cond.code yX3_endSteps cX3_endSteps 1 none, Cond.methodLink RX3 56 yJ7_fill_53178, Cond.methodLink RX3 152 yX2_nodeCount, Cond.instanceMethod yX2_nodeCount, Cond.selects RX2 yX2_nodeCount yX2_nodeCount, Cond.code yX2_nodeCount cX2_nodeCount 2 (some .int), Cond.methodLink RX2 53 yX2_unmark, Cond.methodLink RX2 56 yX2_mark, Cond.methodLink RX2 60 yX2_markedWith, Cond.instanceMethod yX2_markedWith, Cond.selects RX2 yX2_markedWith yX2_markedWith, Cond.code yX2_markedWith cX2_markedWith 4 (some .int)]
def wsX3_restrict : List Cond := .code yX3_restrict cX3_restrict 5 (some .int) :: ((wsX3_restrict_r1 ++ (wsX3_restrict_r2 ++ (wsX3_restrict_r3 ++ (wsX3_restrict_r4 ++ wsX3_restrict_r5)))) ++ wsX30 ++ wsX20 ++ wsX10)
def wsX3_quantify_r1 : List Cond := [Cond.fieldLink RX3 29 "DiagramBench" "held" "[I", Cond.methodLink RX3 123 yX3_isHandle, Cond.static yX3_isHandle, Cond.initialized RX3, Cond.code yX3_isHandle cX3_isHandle 1 (some .boolean), Cond.methodLink RX3 139 yX3_hasFunction, Cond.instanceMethod yX3_hasFunction, Cond.selects RX3 yX3_hasFunction yX3_hasFunction, Cond.code yX3_hasFunction cX3_hasFunction 2 (some .boolean), Cond.methodLink RX3 70 yX3_isVariable, Cond.static yX3_isVariable, Cond.code yX3_isVariable cX3_isVariable 1 (some .boolean), Cond.methodLink RX3 126 yX3_beginSteps, Cond.instanceMethod yX3_beginSteps, Cond.selects RX3 yX3_beginSteps yX3_beginSteps, Cond.code yX3_beginSteps cX3_beginSteps 1 none, Cond.fieldLink RX3 46 "DiagramBench" "mostInUse" "I", Cond.methodLink RX3 145 yX3_fixStep, Cond.instanceMethod yX3_fixStep, Cond.selects RX3 yX3_fixStep yX3_fixStep, Cond.code yX3_fixStep cX3_fixStep 4 (some .int), Cond.fieldLink RX3 25 "DiagramBench" "pool" "LDiagramBench$Pool;", Cond.fieldLink RX3 18 "DiagramBench" "places" "LDiagramBench$Order;", Cond.methodLink RX3 155 yX3_collect]
def wsX3_quantify_r2 : List Cond := [Cond.instanceMethod yX3_collect, Cond.selects RX3 yX3_collect yX3_collect, Cond.code yX3_collect cX3_collect 2 none, Cond.fieldLink RX3 33 "DiagramBench" "ofGate" "[I", Cond.fieldLink RX3 42 "DiagramBench" "keptCount" "I", Cond.fieldLink RX3 39 "DiagramBench" "kept" "[I", Cond.methodLink RX3 217 yX2_unmark, Cond.instanceMethod yX2_unmark, Cond.selects RX2 yX2_unmark yX2_unmark, Cond.initialized RX2, Cond.code yX2_unmark cX2_unmark 1 none, Cond.fieldLink RX2 21 "DiagramBench$Pool" "marks" "[I", Cond.methodLink RX2 43 yJ7_fill_53178, Cond.static yJ7_fill_53178, Cond.initialized RJ7, Cond.code yJ7_fill_53178 cJ7_fill_53178 4 none, Cond.methodLink RX3 220 yX2_mark, Cond.instanceMethod yX2_mark, Cond.selects RX2 yX2_mark yX2_mark, Cond.code yX2_mark cX2_mark 2 none, Cond.methodLink RX2 49 yX2_markWith, Cond.instanceMethod yX2_markWith, Cond.selects RX2 yX2_markWith yX2_markWith, Cond.code yX2_markWith cX2_markWith 4 none]
def wsX3_quantify_r3 : List Cond := [Cond.fieldLink RX2 15 "DiagramBench$Pool" "lows" "[I", Cond.fieldLink RX2 18 "DiagramBench$Pool" "highs" "[I", Cond.methodLink RX3 224 yX2_sweep, Cond.instanceMethod yX2_sweep, Cond.selects RX2 yX2_sweep yX2_sweep, Cond.code yX2_sweep cX2_sweep 2 none, Cond.fieldLink RX2 27 "DiagramBench$Pool" "rows" "[I", Cond.fieldLink RX2 30 "DiagramBench$Pool" "firstFree" "I", Cond.fieldLink RX2 34 "DiagramBench$Pool" "used" "I", Cond.fieldLink RX2 24 "DiagramBench$Pool" "next" "[I", Cond.methodLink RX2 64 yX2_enter, Cond.instanceMethod yX2_enter, Cond.selects RX2 yX2_enter yX2_enter, Cond.code yX2_enter cX2_enter 3 none, Cond.methodLink RX3 174 yX1_placeOf, Cond.instanceMethod yX1_placeOf, Cond.selects RX1 yX1_placeOf yX1_placeOf, Cond.initialized RX1, Cond.code yX1_placeOf cX1_placeOf 2 (some .int), Cond.fieldLink RX1 15 "DiagramBench$Order" "placesOf" "[I", Cond.methodLink RX3 209 yX2_makeFixed, Cond.instanceMethod yX2_makeFixed, Cond.selects RX2 yX2_makeFixed yX2_makeFixed, Cond.code yX2_makeFixed cX2_makeFixed 4 (some .int)]
def wsX3_quantify_r4 : List Cond := [Cond.methodLink RX2 91 yX2_fixFrom, Cond.instanceMethod yX2_fixFrom, Cond.selects RX2 yX2_fixFrom yX2_fixFrom, Cond.code yX2_fixFrom cX2_fixFrom 7 (some .int), Cond.fieldLink RX2 11 "DiagramBench$Pool" "places" "[I", Cond.methodLink RX2 67 yX2_nodeFor, Cond.instanceMethod yX2_nodeFor, Cond.selects RX2 yX2_nodeFor yX2_nodeFor, Cond.code yX2_nodeFor cX2_nodeFor 6 (some .int), Cond.fieldLink RX2 37 "DiagramBench$Pool" "most" "I", Cond.methodLink RX3 203 yX3_measured, Cond.instanceMethod yX3_measured, Cond.selects RX3 yX3_measured yX3_measured, Cond.code yX3_measured cX3_measured 3 (some .int), Cond.methodLink RX3 212 Lib.Math.max.name, Cond.static Lib.Math.max.name, Cond.initialized "java/lang/Math", Cond.code Lib.Math.max.name Lib.Math.max.code 2 (some .int), Cond.methodLink RX3 194 yX2_limit, Cond.instanceMethod yX2_limit, Cond.selects RX2 yX2_limit yX2_limit, Cond.code yX2_limit cX2_limit 1 (some .int), Cond.methodLink RX3 158 yX2_usedCount, Cond.instanceMethod yX2_usedCount]
def wsX3_quantify_r5 : List Cond := [Cond.selects RX2 yX2_usedCount yX2_usedCount, Cond.code yX2_usedCount cX2_usedCount 1 (some .int), Cond.methodLink RX3 149 yX3_keep, Cond.instanceMethod yX3_keep, Cond.selects RX3 yX3_keep yX3_keep, Cond.code yX3_keep cX3_keep 2 (some .int), Cond.methodLink RX3 142 yX3_kindStep, Cond.instanceMethod yX3_kindStep, Cond.selects RX3 yX3_kindStep yX3_kindStep, Cond.code yX3_kindStep cX3_kindStep 5 (some .int), Cond.fieldLink RX3 197 "DiagramBench" "TABLES" "[I", Cond.methodLink RX3 200 yX2_make, Cond.instanceMethod yX2_make, Cond.selects RX2 yX2_make yX2_make, Cond.code yX2_make cX2_make 5 (some .int), Cond.methodLink RX2 71 yX2_makeFrom, Cond.instanceMethod yX2_makeFrom, Cond.selects RX2 yX2_makeFrom yX2_makeFrom, Cond.code yX2_makeFrom cX2_makeFrom 10 (some .int), Cond.methodLink RX2 79 Lib.Math.min.name, Cond.static Lib.Math.min.name, Cond.code Lib.Math.min.name Lib.Math.min.code 2 (some .int), Cond.methodLink RX2 75 yX2_knowing, Cond.static yX2_knowing]
def wsX3_quantify_r6 : List Cond := [Cond.code yX2_knowing cX2_knowing 5 (some .int), Cond.methodLink RX2 85 yX2_lowAt, Cond.instanceMethod yX2_lowAt, Cond.selects RX2 yX2_lowAt yX2_lowAt, Cond.code yX2_lowAt cX2_lowAt 3 (some .int), Cond.methodLink RX2 88 yX2_highAt, Cond.instanceMethod yX2_highAt, Cond.selects RX2 yX2_highAt yX2_highAt, Cond.code yX2_highAt cX2_highAt 3 (some .int), Cond.methodLink RX3 133 yX3_give, Cond.instanceMethod yX3_give, Cond.selects RX3 yX3_give yX3_give, Cond.code yX3_give cX3_give 3 (some .int), Cond.methodLink RX3 188 yX3_endSteps, Cond.instanceMethod yX3_endSteps, Cond.selects RX3 yX3_endSteps yX3_endSteps, Cond.code yX3_endSteps cX3_endSteps 1 none, Cond.methodLink RX3 56 yJ7_fill_53178, Cond.methodLink RX3 152 yX2_nodeCount, Cond.instanceMethod yX2_nodeCount, Cond.selects RX2 yX2_nodeCount yX2_nodeCount, Cond.code yX2_nodeCount cX2_nodeCount 2 (some .int), Cond.methodLink RX2 53 yX2_unmark, Cond.methodLink RX2 56 yX2_mark]
def wsX3_quantify_r7 : List Cond := [Cond.methodLink RX2 60 yX2_markedWith, Cond.instanceMethod yX2_markedWith, Cond.selects RX2 yX2_markedWith yX2_markedWith, Cond.code yX2_markedWith cX2_markedWith 4 (some .int)]
def wsX3_quantify : List Cond := .code yX3_quantify cX3_quantify 7 (some .int) :: ((wsX3_quantify_r1 ++ (wsX3_quantify_r2 ++ (wsX3_quantify_r3 ++ (wsX3_quantify_r4 ++ (wsX3_quantify_r5 ++ (wsX3_quantify_r6 ++ wsX3_quantify_r7)))))) ++ wsX30 ++ wsX20 ++ wsX10)
def wsX3_compose_r1 : List Cond := [Cond.fieldLink RX3 29 "DiagramBench" "held" "[I", Cond.methodLink RX3 123 yX3_isHandle, Cond.static yX3_isHandle, Cond.initialized RX3, Cond.code yX3_isHandle cX3_isHandle 1 (some .boolean), Cond.methodLink RX3 139 yX3_hasFunction, Cond.instanceMethod yX3_hasFunction, Cond.selects RX3 yX3_hasFunction yX3_hasFunction, Cond.code yX3_hasFunction cX3_hasFunction 2 (some .boolean), Cond.methodLink RX3 70 yX3_isVariable, Cond.static yX3_isVariable, Cond.code yX3_isVariable cX3_isVariable 1 (some .boolean), Cond.methodLink RX3 126 yX3_beginSteps, Cond.instanceMethod yX3_beginSteps, Cond.selects RX3 yX3_beginSteps yX3_beginSteps, Cond.code yX3_beginSteps cX3_beginSteps 1 none, Cond.fieldLink RX3 46 "DiagramBench" "mostInUse" "I", Cond.methodLink RX3 145 yX3_fixStep, Cond.instanceMethod yX3_fixStep, Cond.selects RX3 yX3_fixStep yX3_fixStep, Cond.code yX3_fixStep cX3_fixStep 4 (some .int), Cond.fieldLink RX3 25 "DiagramBench" "pool" "LDiagramBench$Pool;", Cond.fieldLink RX3 18 "DiagramBench" "places" "LDiagramBench$Order;", Cond.methodLink RX3 155 yX3_collect]
def wsX3_compose_r2 : List Cond := [Cond.instanceMethod yX3_collect, Cond.selects RX3 yX3_collect yX3_collect, Cond.code yX3_collect cX3_collect 2 none, Cond.fieldLink RX3 33 "DiagramBench" "ofGate" "[I", Cond.fieldLink RX3 42 "DiagramBench" "keptCount" "I", Cond.fieldLink RX3 39 "DiagramBench" "kept" "[I", Cond.methodLink RX3 217 yX2_unmark, Cond.instanceMethod yX2_unmark, Cond.selects RX2 yX2_unmark yX2_unmark, Cond.initialized RX2, Cond.code yX2_unmark cX2_unmark 1 none, Cond.fieldLink RX2 21 "DiagramBench$Pool" "marks" "[I", Cond.methodLink RX2 43 yJ7_fill_53178, Cond.static yJ7_fill_53178, Cond.initialized RJ7, Cond.code yJ7_fill_53178 cJ7_fill_53178 4 none, Cond.methodLink RX3 220 yX2_mark, Cond.instanceMethod yX2_mark, Cond.selects RX2 yX2_mark yX2_mark, Cond.code yX2_mark cX2_mark 2 none, Cond.methodLink RX2 49 yX2_markWith, Cond.instanceMethod yX2_markWith, Cond.selects RX2 yX2_markWith yX2_markWith, Cond.code yX2_markWith cX2_markWith 4 none]
def wsX3_compose_r3 : List Cond := [Cond.fieldLink RX2 15 "DiagramBench$Pool" "lows" "[I", Cond.fieldLink RX2 18 "DiagramBench$Pool" "highs" "[I", Cond.methodLink RX3 224 yX2_sweep, Cond.instanceMethod yX2_sweep, Cond.selects RX2 yX2_sweep yX2_sweep, Cond.code yX2_sweep cX2_sweep 2 none, Cond.fieldLink RX2 27 "DiagramBench$Pool" "rows" "[I", Cond.fieldLink RX2 30 "DiagramBench$Pool" "firstFree" "I", Cond.fieldLink RX2 34 "DiagramBench$Pool" "used" "I", Cond.fieldLink RX2 24 "DiagramBench$Pool" "next" "[I", Cond.methodLink RX2 64 yX2_enter, Cond.instanceMethod yX2_enter, Cond.selects RX2 yX2_enter yX2_enter, Cond.code yX2_enter cX2_enter 3 none, Cond.methodLink RX3 174 yX1_placeOf, Cond.instanceMethod yX1_placeOf, Cond.selects RX1 yX1_placeOf yX1_placeOf, Cond.initialized RX1, Cond.code yX1_placeOf cX1_placeOf 2 (some .int), Cond.fieldLink RX1 15 "DiagramBench$Order" "placesOf" "[I", Cond.methodLink RX3 209 yX2_makeFixed, Cond.instanceMethod yX2_makeFixed, Cond.selects RX2 yX2_makeFixed yX2_makeFixed, Cond.code yX2_makeFixed cX2_makeFixed 4 (some .int)]
def wsX3_compose_r4 : List Cond := [Cond.methodLink RX2 91 yX2_fixFrom, Cond.instanceMethod yX2_fixFrom, Cond.selects RX2 yX2_fixFrom yX2_fixFrom, Cond.code yX2_fixFrom cX2_fixFrom 7 (some .int), Cond.fieldLink RX2 11 "DiagramBench$Pool" "places" "[I", Cond.methodLink RX2 67 yX2_nodeFor, Cond.instanceMethod yX2_nodeFor, Cond.selects RX2 yX2_nodeFor yX2_nodeFor, Cond.code yX2_nodeFor cX2_nodeFor 6 (some .int), Cond.fieldLink RX2 37 "DiagramBench$Pool" "most" "I", Cond.methodLink RX3 203 yX3_measured, Cond.instanceMethod yX3_measured, Cond.selects RX3 yX3_measured yX3_measured, Cond.code yX3_measured cX3_measured 3 (some .int), Cond.methodLink RX3 212 Lib.Math.max.name, Cond.static Lib.Math.max.name, Cond.initialized "java/lang/Math", Cond.code Lib.Math.max.name Lib.Math.max.code 2 (some .int), Cond.methodLink RX3 194 yX2_limit, Cond.instanceMethod yX2_limit, Cond.selects RX2 yX2_limit yX2_limit, Cond.code yX2_limit cX2_limit 1 (some .int), Cond.methodLink RX3 158 yX2_usedCount, Cond.instanceMethod yX2_usedCount]
def wsX3_compose_r5 : List Cond := [Cond.selects RX2 yX2_usedCount yX2_usedCount, Cond.code yX2_usedCount cX2_usedCount 1 (some .int), Cond.methodLink RX3 149 yX3_keep, Cond.instanceMethod yX3_keep, Cond.selects RX3 yX3_keep yX3_keep, Cond.code yX3_keep cX3_keep 2 (some .int), Cond.methodLink RX3 142 yX3_kindStep, Cond.instanceMethod yX3_kindStep, Cond.selects RX3 yX3_kindStep yX3_kindStep, Cond.code yX3_kindStep cX3_kindStep 5 (some .int), Cond.fieldLink RX3 197 "DiagramBench" "TABLES" "[I", Cond.methodLink RX3 200 yX2_make, Cond.instanceMethod yX2_make, Cond.selects RX2 yX2_make yX2_make, Cond.code yX2_make cX2_make 5 (some .int), Cond.methodLink RX2 71 yX2_makeFrom, Cond.instanceMethod yX2_makeFrom, Cond.selects RX2 yX2_makeFrom yX2_makeFrom, Cond.code yX2_makeFrom cX2_makeFrom 10 (some .int), Cond.methodLink RX2 79 Lib.Math.min.name, Cond.static Lib.Math.min.name, Cond.code Lib.Math.min.name Lib.Math.min.code 2 (some .int), Cond.methodLink RX2 75 yX2_knowing, Cond.static yX2_knowing]
def wsX3_compose_r6 : List Cond := [Cond.code yX2_knowing cX2_knowing 5 (some .int), Cond.methodLink RX2 85 yX2_lowAt, Cond.instanceMethod yX2_lowAt, Cond.selects RX2 yX2_lowAt yX2_lowAt, Cond.code yX2_lowAt cX2_lowAt 3 (some .int), Cond.methodLink RX2 88 yX2_highAt, Cond.instanceMethod yX2_highAt, Cond.selects RX2 yX2_highAt yX2_highAt, Cond.code yX2_highAt cX2_highAt 3 (some .int), Cond.methodLink RX3 133 yX3_give, Cond.instanceMethod yX3_give, Cond.selects RX3 yX3_give yX3_give, Cond.code yX3_give cX3_give 3 (some .int), Cond.methodLink RX3 188 yX3_endSteps, Cond.instanceMethod yX3_endSteps, Cond.selects RX3 yX3_endSteps yX3_endSteps, Cond.code yX3_endSteps cX3_endSteps 1 none, Cond.methodLink RX3 56 yJ7_fill_53178, Cond.methodLink RX3 152 yX2_nodeCount, Cond.instanceMethod yX2_nodeCount, Cond.selects RX2 yX2_nodeCount yX2_nodeCount, Cond.code yX2_nodeCount cX2_nodeCount 2 (some .int), Cond.methodLink RX2 53 yX2_unmark, Cond.methodLink RX2 56 yX2_mark]
def wsX3_compose_r7 : List Cond := [Cond.methodLink RX2 60 yX2_markedWith, Cond.instanceMethod yX2_markedWith, Cond.selects RX2 yX2_markedWith yX2_markedWith, Cond.code yX2_markedWith cX2_markedWith 4 (some .int)]
def wsX3_compose : List Cond := .code yX3_compose cX3_compose 7 (some .int) :: ((wsX3_compose_r1 ++ (wsX3_compose_r2 ++ (wsX3_compose_r3 ++ (wsX3_compose_r4 ++ (wsX3_compose_r5 ++ (wsX3_compose_r6 ++ wsX3_compose_r7)))))) ++ wsX30 ++ wsX20 ++ wsX10)
def wsX3_share : List Cond := .code yX3_share cX3_share 3 (some .int) :: ([.fieldLink RX3 29 "DiagramBench" "held" "[I", .methodLink RX3 123 yX3_isHandle, .static yX3_isHandle, .initialized RX3, .code yX3_isHandle cX3_isHandle 1 (some .boolean), .methodLink RX3 139 yX3_hasFunction, .instanceMethod yX3_hasFunction, .selects RX3 yX3_hasFunction yX3_hasFunction, .code yX3_hasFunction cX3_hasFunction 2 (some .boolean)] ++ wsX30)
def wsX3_drop : List Cond := .code yX3_drop cX3_drop 3 (some .int) :: ([.fieldLink RX3 29 "DiagramBench" "held" "[I", .methodLink RX3 123 yX3_isHandle, .static yX3_isHandle, .initialized RX3, .code yX3_isHandle cX3_isHandle 1 (some .boolean)] ++ wsX30)
def wsX3_nodes_r1 : List Cond := [Cond.fieldLink RX3 25 "DiagramBench" "pool" "LDiagramBench$Pool;", Cond.fieldLink RX3 29 "DiagramBench" "held" "[I", Cond.methodLink RX3 139 yX3_hasFunction, Cond.instanceMethod yX3_hasFunction, Cond.selects RX3 yX3_hasFunction yX3_hasFunction, Cond.initialized RX3, Cond.code yX3_hasFunction cX3_hasFunction 2 (some .boolean), Cond.methodLink RX3 123 yX3_isHandle, Cond.static yX3_isHandle, Cond.code yX3_isHandle cX3_isHandle 1 (some .boolean), Cond.methodLink RX3 152 yX2_nodeCount, Cond.instanceMethod yX2_nodeCount, Cond.selects RX2 yX2_nodeCount yX2_nodeCount, Cond.initialized RX2, Cond.code yX2_nodeCount cX2_nodeCount 2 (some .int), Cond.methodLink RX2 53 yX2_unmark, Cond.instanceMethod yX2_unmark, Cond.selects RX2 yX2_unmark yX2_unmark, Cond.code yX2_unmark cX2_unmark 1 none, Cond.fieldLink RX2 21 "DiagramBench$Pool" "marks" "[I", Cond.methodLink RX2 43 yJ7_fill_53178, Cond.static yJ7_fill_53178, Cond.initialized RJ7, Cond.code yJ7_fill_53178 cJ7_fill_53178 4 none]
def wsX3_nodes_r2 : List Cond := [Cond.methodLink RX2 56 yX2_mark, Cond.instanceMethod yX2_mark, Cond.selects RX2 yX2_mark yX2_mark, Cond.code yX2_mark cX2_mark 2 none, Cond.methodLink RX2 49 yX2_markWith, Cond.instanceMethod yX2_markWith, Cond.selects RX2 yX2_markWith yX2_markWith, Cond.code yX2_markWith cX2_markWith 4 none, Cond.fieldLink RX2 15 "DiagramBench$Pool" "lows" "[I", Cond.fieldLink RX2 18 "DiagramBench$Pool" "highs" "[I", Cond.methodLink RX2 60 yX2_markedWith, Cond.instanceMethod yX2_markedWith, Cond.selects RX2 yX2_markedWith yX2_markedWith, Cond.code yX2_markedWith cX2_markedWith 4 (some .int)]
def wsX3_nodes : List Cond := .code yX3_nodes cX3_nodes 2 (some .int) :: ((wsX3_nodes_r1 ++ wsX3_nodes_r2) ++ wsX30 ++ wsX20)
def wsX3_common_r1 : List Cond := [Cond.fieldLink RX3 25 "DiagramBench" "pool" "LDiagramBench$Pool;", Cond.fieldLink RX3 29 "DiagramBench" "held" "[I", Cond.methodLink RX3 139 yX3_hasFunction, Cond.instanceMethod yX3_hasFunction, Cond.selects RX3 yX3_hasFunction yX3_hasFunction, Cond.initialized RX3, Cond.code yX3_hasFunction cX3_hasFunction 2 (some .boolean), Cond.methodLink RX3 123 yX3_isHandle, Cond.static yX3_isHandle, Cond.code yX3_isHandle cX3_isHandle 1 (some .boolean), Cond.methodLink RX3 161 yX2_commonCount, Cond.instanceMethod yX2_commonCount, Cond.selects RX2 yX2_commonCount yX2_commonCount, Cond.initialized RX2, Cond.code yX2_commonCount cX2_commonCount 3 (some .int), Cond.methodLink RX2 53 yX2_unmark, Cond.instanceMethod yX2_unmark, Cond.selects RX2 yX2_unmark yX2_unmark, Cond.code yX2_unmark cX2_unmark 1 none, Cond.fieldLink RX2 21 "DiagramBench$Pool" "marks" "[I", Cond.methodLink RX2 43 yJ7_fill_53178, Cond.static yJ7_fill_53178, Cond.initialized RJ7, Cond.code yJ7_fill_53178 cJ7_fill_53178 4 none]
def wsX3_common_r2 : List Cond := [Cond.methodLink RX2 49 yX2_markWith, Cond.instanceMethod yX2_markWith, Cond.selects RX2 yX2_markWith yX2_markWith, Cond.code yX2_markWith cX2_markWith 4 none, Cond.fieldLink RX2 15 "DiagramBench$Pool" "lows" "[I", Cond.fieldLink RX2 18 "DiagramBench$Pool" "highs" "[I", Cond.methodLink RX2 60 yX2_markedWith, Cond.instanceMethod yX2_markedWith, Cond.selects RX2 yX2_markedWith yX2_markedWith, Cond.code yX2_markedWith cX2_markedWith 4 (some .int)]
def wsX3_common : List Cond := .code yX3_common cX3_common 3 (some .int) :: ((wsX3_common_r1 ++ wsX3_common_r2) ++ wsX30 ++ wsX20)
def wsX3_peak : List Cond := .code yX3_peak cX3_peak 1 (some .int) :: ([.fieldLink RX3 46 "DiagramBench" "mostInUse" "I"] ++ wsX30)
def wsX3_value_r1 : List Cond := [Cond.fieldLink RX3 25 "DiagramBench" "pool" "LDiagramBench$Pool;", Cond.fieldLink RX3 29 "DiagramBench" "held" "[I", Cond.fieldLink RX3 18 "DiagramBench" "places" "LDiagramBench$Order;", Cond.methodLink RX3 139 yX3_hasFunction, Cond.instanceMethod yX3_hasFunction, Cond.selects RX3 yX3_hasFunction yX3_hasFunction, Cond.initialized RX3, Cond.code yX3_hasFunction cX3_hasFunction 2 (some .boolean), Cond.methodLink RX3 123 yX3_isHandle, Cond.static yX3_isHandle, Cond.code yX3_isHandle cX3_isHandle 1 (some .boolean), Cond.methodLink RX3 91 yX3_isAssignment, Cond.static yX3_isAssignment, Cond.code yX3_isAssignment cX3_isAssignment 1 (some .boolean), Cond.methodLink RX3 164 yX2_valueFor, Cond.instanceMethod yX2_valueFor, Cond.selects RX2 yX2_valueFor yX2_valueFor, Cond.initialized RX2, Cond.code yX2_valueFor cX2_valueFor 7 (some .int), Cond.fieldLink RX2 11 "DiagramBench$Pool" "places" "[I", Cond.fieldLink RX2 18 "DiagramBench$Pool" "highs" "[I", Cond.fieldLink RX2 15 "DiagramBench$Pool" "lows" "[I", Cond.methodLink RX2 95 yX1_variableAt, Cond.instanceMethod yX1_variableAt]
def wsX3_value_r2 : List Cond := [Cond.selects RX1 yX1_variableAt yX1_variableAt, Cond.initialized RX1, Cond.code yX1_variableAt cX1_variableAt 2 (some .int), Cond.fieldLink RX1 9 "DiagramBench$Order" "variables" "[I"]
def wsX3_value : List Cond := .code yX3_value cX3_value 3 (some .int) :: ((wsX3_value_r1 ++ wsX3_value_r2) ++ wsX30 ++ wsX20 ++ wsX10)
def wsX3_same : List Cond := .code yX3_same cX3_same 3 (some .int) :: ([.fieldLink RX3 29 "DiagramBench" "held" "[I", .methodLink RX3 139 yX3_hasFunction, .instanceMethod yX3_hasFunction, .selects RX3 yX3_hasFunction yX3_hasFunction, .initialized RX3, .code yX3_hasFunction cX3_hasFunction 2 (some .boolean), .methodLink RX3 123 yX3_isHandle, .static yX3_isHandle, .code yX3_isHandle cX3_isHandle 1 (some .boolean)] ++ wsX30)
def wsX3_count_r1 : List Cond := [Cond.fieldLink RX3 25 "DiagramBench" "pool" "LDiagramBench$Pool;", Cond.fieldLink RX3 29 "DiagramBench" "held" "[I", Cond.fieldLink RX3 18 "DiagramBench" "places" "LDiagramBench$Order;", Cond.methodLink RX3 139 yX3_hasFunction, Cond.instanceMethod yX3_hasFunction, Cond.selects RX3 yX3_hasFunction yX3_hasFunction, Cond.initialized RX3, Cond.code yX3_hasFunction cX3_hasFunction 2 (some .boolean), Cond.methodLink RX3 123 yX3_isHandle, Cond.static yX3_isHandle, Cond.code yX3_isHandle cX3_isHandle 1 (some .boolean), Cond.methodLink RX3 164 yX2_valueFor, Cond.instanceMethod yX2_valueFor, Cond.selects RX2 yX2_valueFor yX2_valueFor, Cond.initialized RX2, Cond.code yX2_valueFor cX2_valueFor 7 (some .int), Cond.fieldLink RX2 11 "DiagramBench$Pool" "places" "[I", Cond.fieldLink RX2 18 "DiagramBench$Pool" "highs" "[I", Cond.fieldLink RX2 15 "DiagramBench$Pool" "lows" "[I", Cond.methodLink RX2 95 yX1_variableAt, Cond.instanceMethod yX1_variableAt, Cond.selects RX1 yX1_variableAt yX1_variableAt, Cond.initialized RX1, Cond.code yX1_variableAt cX1_variableAt 2 (some .int)]
def wsX3_count_r2 : List Cond := [Cond.fieldLink RX1 9 "DiagramBench$Order" "variables" "[I"]
def wsX3_count : List Cond := .code yX3_count cX3_count 4 (some .int) :: ((wsX3_count_r1 ++ wsX3_count_r2) ++ wsX30 ++ wsX20 ++ wsX10)
def wsX3_support_r1 : List Cond := [Cond.fieldLink RX3 25 "DiagramBench" "pool" "LDiagramBench$Pool;", Cond.fieldLink RX3 29 "DiagramBench" "held" "[I", Cond.fieldLink RX3 18 "DiagramBench" "places" "LDiagramBench$Order;", Cond.methodLink RX3 139 yX3_hasFunction, Cond.instanceMethod yX3_hasFunction, Cond.selects RX3 yX3_hasFunction yX3_hasFunction, Cond.initialized RX3, Cond.code yX3_hasFunction cX3_hasFunction 2 (some .boolean), Cond.methodLink RX3 123 yX3_isHandle, Cond.static yX3_isHandle, Cond.code yX3_isHandle cX3_isHandle 1 (some .boolean), Cond.methodLink RX3 168 yX2_nodeCountAt, Cond.instanceMethod yX2_nodeCountAt, Cond.selects RX2 yX2_nodeCountAt yX2_nodeCountAt, Cond.initialized RX2, Cond.code yX2_nodeCountAt cX2_nodeCountAt 5 (some .int), Cond.fieldLink RX2 21 "DiagramBench$Pool" "marks" "[I", Cond.fieldLink RX2 11 "DiagramBench$Pool" "places" "[I", Cond.methodLink RX2 53 yX2_unmark, Cond.instanceMethod yX2_unmark, Cond.selects RX2 yX2_unmark yX2_unmark, Cond.code yX2_unmark cX2_unmark 1 none, Cond.methodLink RX2 43 yJ7_fill_53178, Cond.static yJ7_fill_53178]
def wsX3_support_r2 : List Cond := [Cond.initialized RJ7, Cond.code yJ7_fill_53178 cJ7_fill_53178 4 none, Cond.methodLink RX2 56 yX2_mark, Cond.instanceMethod yX2_mark, Cond.selects RX2 yX2_mark yX2_mark, Cond.code yX2_mark cX2_mark 2 none, Cond.methodLink RX2 49 yX2_markWith, Cond.instanceMethod yX2_markWith, Cond.selects RX2 yX2_markWith yX2_markWith, Cond.code yX2_markWith cX2_markWith 4 none, Cond.fieldLink RX2 15 "DiagramBench$Pool" "lows" "[I", Cond.fieldLink RX2 18 "DiagramBench$Pool" "highs" "[I", Cond.methodLink RX3 114 yX1_variableAt, Cond.instanceMethod yX1_variableAt, Cond.selects RX1 yX1_variableAt yX1_variableAt, Cond.initialized RX1, Cond.code yX1_variableAt cX1_variableAt 2 (some .int), Cond.fieldLink RX1 9 "DiagramBench$Order" "variables" "[I"]
def wsX3_support : List Cond := .code yX3_support cX3_support 4 (some .int) :: ((wsX3_support_r1 ++ wsX3_support_r2) ++ wsX30 ++ wsX20 ++ wsX10)
def wsX3_top : List Cond := .code yX3_top cX3_top 3 (some .int) :: ([.fieldLink RX3 25 "DiagramBench" "pool" "LDiagramBench$Pool;", .fieldLink RX3 29 "DiagramBench" "held" "[I", .fieldLink RX3 18 "DiagramBench" "places" "LDiagramBench$Order;", .methodLink RX3 139 yX3_hasFunction, .instanceMethod yX3_hasFunction, .selects RX3 yX3_hasFunction yX3_hasFunction, .initialized RX3, .code yX3_hasFunction cX3_hasFunction 2 (some .boolean), .methodLink RX3 123 yX3_isHandle, .static yX3_isHandle, .code yX3_isHandle cX3_isHandle 1 (some .boolean), .methodLink RX3 171 yX2_placeOf, .instanceMethod yX2_placeOf, .selects RX2 yX2_placeOf yX2_placeOf, .initialized RX2, .code yX2_placeOf cX2_placeOf 2 (some .int), .fieldLink RX2 11 "DiagramBench$Pool" "places" "[I", .methodLink RX3 114 yX1_variableAt, .instanceMethod yX1_variableAt, .selects RX1 yX1_variableAt yX1_variableAt, .initialized RX1, .code yX1_variableAt cX1_variableAt 2 (some .int), .fieldLink RX1 9 "DiagramBench$Order" "variables" "[I"] ++ wsX30 ++ wsX20 ++ wsX10)
def wsX3_level_r1 : List Cond := [Cond.fieldLink RX3 25 "DiagramBench" "pool" "LDiagramBench$Pool;", Cond.fieldLink RX3 29 "DiagramBench" "held" "[I", Cond.fieldLink RX3 18 "DiagramBench" "places" "LDiagramBench$Order;", Cond.methodLink RX3 139 yX3_hasFunction, Cond.instanceMethod yX3_hasFunction, Cond.selects RX3 yX3_hasFunction yX3_hasFunction, Cond.initialized RX3, Cond.code yX3_hasFunction cX3_hasFunction 2 (some .boolean), Cond.methodLink RX3 123 yX3_isHandle, Cond.static yX3_isHandle, Cond.code yX3_isHandle cX3_isHandle 1 (some .boolean), Cond.methodLink RX3 70 yX3_isVariable, Cond.static yX3_isVariable, Cond.code yX3_isVariable cX3_isVariable 1 (some .boolean), Cond.methodLink RX3 174 yX1_placeOf, Cond.instanceMethod yX1_placeOf, Cond.selects RX1 yX1_placeOf yX1_placeOf, Cond.initialized RX1, Cond.code yX1_placeOf cX1_placeOf 2 (some .int), Cond.fieldLink RX1 15 "DiagramBench$Order" "placesOf" "[I", Cond.methodLink RX3 168 yX2_nodeCountAt, Cond.instanceMethod yX2_nodeCountAt, Cond.selects RX2 yX2_nodeCountAt yX2_nodeCountAt, Cond.initialized RX2]
def wsX3_level_r2 : List Cond := [Cond.code yX2_nodeCountAt cX2_nodeCountAt 5 (some .int), Cond.fieldLink RX2 21 "DiagramBench$Pool" "marks" "[I", Cond.fieldLink RX2 11 "DiagramBench$Pool" "places" "[I", Cond.methodLink RX2 53 yX2_unmark, Cond.instanceMethod yX2_unmark, Cond.selects RX2 yX2_unmark yX2_unmark, Cond.code yX2_unmark cX2_unmark 1 none, Cond.methodLink RX2 43 yJ7_fill_53178, Cond.static yJ7_fill_53178, Cond.initialized RJ7, Cond.code yJ7_fill_53178 cJ7_fill_53178 4 none, Cond.methodLink RX2 56 yX2_mark, Cond.instanceMethod yX2_mark, Cond.selects RX2 yX2_mark yX2_mark, Cond.code yX2_mark cX2_mark 2 none, Cond.methodLink RX2 49 yX2_markWith, Cond.instanceMethod yX2_markWith, Cond.selects RX2 yX2_markWith yX2_markWith, Cond.code yX2_markWith cX2_markWith 4 none, Cond.fieldLink RX2 15 "DiagramBench$Pool" "lows" "[I", Cond.fieldLink RX2 18 "DiagramBench$Pool" "highs" "[I"]
def wsX3_level : List Cond := .code yX3_level cX3_level 3 (some .int) :: ((wsX3_level_r1 ++ wsX3_level_r2) ++ wsX30 ++ wsX10 ++ wsX20)
def wsX3_least_r1 : List Cond := [Cond.fieldLink RX3 25 "DiagramBench" "pool" "LDiagramBench$Pool;", Cond.fieldLink RX3 29 "DiagramBench" "held" "[I", Cond.fieldLink RX3 18 "DiagramBench" "places" "LDiagramBench$Order;", Cond.methodLink RX3 139 yX3_hasFunction, Cond.instanceMethod yX3_hasFunction, Cond.selects RX3 yX3_hasFunction yX3_hasFunction, Cond.initialized RX3, Cond.code yX3_hasFunction cX3_hasFunction 2 (some .boolean), Cond.methodLink RX3 123 yX3_isHandle, Cond.static yX3_isHandle, Cond.code yX3_isHandle cX3_isHandle 1 (some .boolean), Cond.methodLink RX3 175 yX2_leastFor, Cond.instanceMethod yX2_leastFor, Cond.selects RX2 yX2_leastFor yX2_leastFor, Cond.initialized RX2, Cond.code yX2_leastFor cX2_leastFor 7 (some .int), Cond.fieldLink RX2 15 "DiagramBench$Pool" "lows" "[I", Cond.fieldLink RX2 11 "DiagramBench$Pool" "places" "[I", Cond.fieldLink RX2 18 "DiagramBench$Pool" "highs" "[I", Cond.methodLink RX2 95 yX1_variableAt, Cond.instanceMethod yX1_variableAt, Cond.selects RX1 yX1_variableAt yX1_variableAt, Cond.initialized RX1, Cond.code yX1_variableAt cX1_variableAt 2 (some .int)]
def wsX3_least_r2 : List Cond := [Cond.fieldLink RX1 9 "DiagramBench$Order" "variables" "[I"]
def wsX3_least : List Cond := .code yX3_least cX3_least 3 (some .int) :: ((wsX3_least_r1 ++ wsX3_least_r2) ++ wsX30 ++ wsX20 ++ wsX10)
def wsX3_paths : List Cond := .code yX3_paths cX3_paths 3 (some .int) :: ([.fieldLink RX3 25 "DiagramBench" "pool" "LDiagramBench$Pool;", .fieldLink RX3 29 "DiagramBench" "held" "[I", .methodLink RX3 139 yX3_hasFunction, .instanceMethod yX3_hasFunction, .selects RX3 yX3_hasFunction yX3_hasFunction, .initialized RX3, .code yX3_hasFunction cX3_hasFunction 2 (some .boolean), .methodLink RX3 123 yX3_isHandle, .static yX3_isHandle, .code yX3_isHandle cX3_isHandle 1 (some .boolean), .methodLink RX3 178 yX2_pathCount, .instanceMethod yX2_pathCount, .selects RX2 yX2_pathCount yX2_pathCount, .initialized RX2, .code yX2_pathCount cX2_pathCount 3 (some .int), .methodLink RX2 100 yX2_pathsFrom, .instanceMethod yX2_pathsFrom, .selects RX2 yX2_pathsFrom yX2_pathsFrom, .code yX2_pathsFrom cX2_pathsFrom 4 (some .int), .fieldLink RX2 15 "DiagramBench$Pool" "lows" "[I", .fieldLink RX2 18 "DiagramBench$Pool" "highs" "[I"] ++ wsX30 ++ wsX20)
def wsX3_notePart : List Cond := .code yX3_notePart cX3_notePart 3 none :: ([.fieldLink RX3 49 "DiagramBench" "partedOutput" "I", .fieldLink RX3 25 "DiagramBench" "pool" "LDiagramBench$Pool;", .fieldLink RX3 18 "DiagramBench" "places" "LDiagramBench$Order;", .fieldLink RX3 52 "DiagramBench" "partedAssignment" "I", .methodLink RX3 175 yX2_leastFor, .instanceMethod yX2_leastFor, .selects RX2 yX2_leastFor yX2_leastFor, .initialized RX2, .code yX2_leastFor cX2_leastFor 7 (some .int), .fieldLink RX2 15 "DiagramBench$Pool" "lows" "[I", .fieldLink RX2 11 "DiagramBench$Pool" "places" "[I", .fieldLink RX2 18 "DiagramBench$Pool" "highs" "[I", .methodLink RX2 95 yX1_variableAt, .instanceMethod yX1_variableAt, .selects RX1 yX1_variableAt yX1_variableAt, .initialized RX1, .code yX1_variableAt cX1_variableAt 2 (some .int), .fieldLink RX1 9 "DiagramBench$Order" "variables" "[I"] ++ wsX30 ++ wsX20 ++ wsX10)
def wsX3_equal_r1 : List Cond := [Cond.fieldLink RX3 11 "DiagramBench" "nets" "[LDiagramBench$Net;", Cond.methodLink RX3 62 yX3_isNet, Cond.static yX3_isNet, Cond.initialized RX3, Cond.code yX3_isNet cX3_isNet 1 (some .boolean), Cond.methodLink RX3 181 yX0_outputCount, Cond.instanceMethod yX0_outputCount, Cond.selects RX0 yX0_outputCount yX0_outputCount, Cond.initialized RX0, Cond.code yX0_outputCount cX0_outputCount 1 (some .int), Cond.fieldLink RX0 28 "DiagramBench$Net" "outputs" "I", Cond.methodLink RX3 126 yX3_beginSteps, Cond.instanceMethod yX3_beginSteps, Cond.selects RX3 yX3_beginSteps yX3_beginSteps, Cond.code yX3_beginSteps cX3_beginSteps 1 none, Cond.fieldLink RX3 46 "DiagramBench" "mostInUse" "I", Cond.methodLink RX3 129 yX3_building, Cond.instanceMethod yX3_building, Cond.selects RX3 yX3_building yX3_building, Cond.code yX3_building cX3_building 7 (some .int), Cond.fieldLink RX3 36 "DiagramBench" "lastNeed" "[I", Cond.fieldLink RX3 33 "DiagramBench" "ofGate" "[I", Cond.methodLink RX3 227 yX0_findNeeds, Cond.instanceMethod yX0_findNeeds]
def wsX3_equal_r2 : List Cond := [Cond.selects RX0 yX0_findNeeds yX0_findNeeds, Cond.code yX0_findNeeds cX0_findNeeds 5 (some .int), Cond.fieldLink RX0 18 "DiagramBench$Net" "outputGates" "[I", Cond.methodLink RX0 48 yJ7_fill_53178, Cond.static yJ7_fill_53178, Cond.initialized RJ7, Cond.code yJ7_fill_53178 cJ7_fill_53178 4 none, Cond.methodLink RX0 54 yX0_noteNeedsOf, Cond.instanceMethod yX0_noteNeedsOf, Cond.selects RX0 yX0_noteNeedsOf yX0_noteNeedsOf, Cond.code yX0_noteNeedsOf cX0_noteNeedsOf 5 none, Cond.fieldLink RX0 9 "DiagramBench$Net" "kinds" "[I", Cond.methodLink RX0 42 yX0_operand, Cond.instanceMethod yX0_operand, Cond.selects RX0 yX0_operand yX0_operand, Cond.code yX0_operand cX0_operand 3 (some .int), Cond.fieldLink RX0 15 "DiagramBench$Net" "operands" "[I", Cond.methodLink RX3 231 yX0_kindOf, Cond.instanceMethod yX0_kindOf, Cond.selects RX0 yX0_kindOf yX0_kindOf, Cond.code yX0_kindOf cX0_kindOf 2 (some .int), Cond.methodLink RX3 234 yX0_operand, Cond.methodLink RX3 136 yX3_variableStep, Cond.instanceMethod yX3_variableStep]
def wsX3_equal_r3 : List Cond := [Cond.selects RX3 yX3_variableStep yX3_variableStep, Cond.code yX3_variableStep cX3_variableStep 2 (some .int), Cond.fieldLink RX3 25 "DiagramBench" "pool" "LDiagramBench$Pool;", Cond.fieldLink RX3 18 "DiagramBench" "places" "LDiagramBench$Order;", Cond.methodLink RX3 155 yX3_collect, Cond.instanceMethod yX3_collect, Cond.selects RX3 yX3_collect yX3_collect, Cond.code yX3_collect cX3_collect 2 none, Cond.fieldLink RX3 29 "DiagramBench" "held" "[I", Cond.fieldLink RX3 42 "DiagramBench" "keptCount" "I", Cond.fieldLink RX3 39 "DiagramBench" "kept" "[I", Cond.methodLink RX3 217 yX2_unmark, Cond.instanceMethod yX2_unmark, Cond.selects RX2 yX2_unmark yX2_unmark, Cond.initialized RX2, Cond.code yX2_unmark cX2_unmark 1 none, Cond.fieldLink RX2 21 "DiagramBench$Pool" "marks" "[I", Cond.methodLink RX2 43 yJ7_fill_53178, Cond.methodLink RX3 220 yX2_mark, Cond.instanceMethod yX2_mark, Cond.selects RX2 yX2_mark yX2_mark, Cond.code yX2_mark cX2_mark 2 none, Cond.methodLink RX2 49 yX2_markWith, Cond.instanceMethod yX2_markWith]
def wsX3_equal_r4 : List Cond := [Cond.selects RX2 yX2_markWith yX2_markWith, Cond.code yX2_markWith cX2_markWith 4 none, Cond.fieldLink RX2 15 "DiagramBench$Pool" "lows" "[I", Cond.fieldLink RX2 18 "DiagramBench$Pool" "highs" "[I", Cond.methodLink RX3 224 yX2_sweep, Cond.instanceMethod yX2_sweep, Cond.selects RX2 yX2_sweep yX2_sweep, Cond.code yX2_sweep cX2_sweep 2 none, Cond.fieldLink RX2 27 "DiagramBench$Pool" "rows" "[I", Cond.fieldLink RX2 30 "DiagramBench$Pool" "firstFree" "I", Cond.fieldLink RX2 34 "DiagramBench$Pool" "used" "I", Cond.fieldLink RX2 24 "DiagramBench$Pool" "next" "[I", Cond.methodLink RX2 64 yX2_enter, Cond.instanceMethod yX2_enter, Cond.selects RX2 yX2_enter yX2_enter, Cond.code yX2_enter cX2_enter 3 none, Cond.methodLink RX3 174 yX1_placeOf, Cond.instanceMethod yX1_placeOf, Cond.selects RX1 yX1_placeOf yX1_placeOf, Cond.initialized RX1, Cond.code yX1_placeOf cX1_placeOf 2 (some .int), Cond.fieldLink RX1 15 "DiagramBench$Order" "placesOf" "[I", Cond.methodLink RX3 206 yX2_makeVariable, Cond.instanceMethod yX2_makeVariable]
def wsX3_equal_r5 : List Cond := [Cond.selects RX2 yX2_makeVariable yX2_makeVariable, Cond.code yX2_makeVariable cX2_makeVariable 2 (some .int), Cond.methodLink RX2 67 yX2_nodeFor, Cond.instanceMethod yX2_nodeFor, Cond.selects RX2 yX2_nodeFor yX2_nodeFor, Cond.code yX2_nodeFor cX2_nodeFor 6 (some .int), Cond.fieldLink RX2 11 "DiagramBench$Pool" "places" "[I", Cond.fieldLink RX2 37 "DiagramBench$Pool" "most" "I", Cond.methodLink RX3 203 yX3_measured, Cond.instanceMethod yX3_measured, Cond.selects RX3 yX3_measured yX3_measured, Cond.code yX3_measured cX3_measured 3 (some .int), Cond.methodLink RX3 212 Lib.Math.max.name, Cond.static Lib.Math.max.name, Cond.initialized "java/lang/Math", Cond.code Lib.Math.max.name Lib.Math.max.code 2 (some .int), Cond.methodLink RX3 194 yX2_limit, Cond.instanceMethod yX2_limit, Cond.selects RX2 yX2_limit yX2_limit, Cond.code yX2_limit cX2_limit 1 (some .int), Cond.methodLink RX3 158 yX2_usedCount, Cond.instanceMethod yX2_usedCount, Cond.selects RX2 yX2_usedCount yX2_usedCount, Cond.code yX2_usedCount cX2_usedCount 1 (some .int)]
def wsX3_equal_r6 : List Cond := [Cond.methodLink RX3 237 yX3_madeFor, Cond.instanceMethod yX3_madeFor, Cond.selects RX3 yX3_madeFor yX3_madeFor, Cond.code yX3_madeFor cX3_madeFor 4 (some .int), Cond.fieldLink RX3 245 "DiagramBench" "OPERANDS" "[I", Cond.methodLink RX3 142 yX3_kindStep, Cond.instanceMethod yX3_kindStep, Cond.selects RX3 yX3_kindStep yX3_kindStep, Cond.code yX3_kindStep cX3_kindStep 5 (some .int), Cond.fieldLink RX3 197 "DiagramBench" "TABLES" "[I", Cond.methodLink RX3 200 yX2_make, Cond.instanceMethod yX2_make, Cond.selects RX2 yX2_make yX2_make, Cond.code yX2_make cX2_make 5 (some .int), Cond.methodLink RX2 71 yX2_makeFrom, Cond.instanceMethod yX2_makeFrom, Cond.selects RX2 yX2_makeFrom yX2_makeFrom, Cond.code yX2_makeFrom cX2_makeFrom 10 (some .int), Cond.methodLink RX2 79 Lib.Math.min.name, Cond.static Lib.Math.min.name, Cond.code Lib.Math.min.name Lib.Math.min.code 2 (some .int), Cond.methodLink RX2 75 yX2_knowing, Cond.static yX2_knowing, Cond.code yX2_knowing cX2_knowing 5 (some .int)]
def wsX3_equal_r7 : List Cond := [Cond.methodLink RX2 85 yX2_lowAt, Cond.instanceMethod yX2_lowAt, Cond.selects RX2 yX2_lowAt yX2_lowAt, Cond.code yX2_lowAt cX2_lowAt 3 (some .int), Cond.methodLink RX2 88 yX2_highAt, Cond.instanceMethod yX2_highAt, Cond.selects RX2 yX2_highAt yX2_highAt, Cond.code yX2_highAt cX2_highAt 3 (some .int), Cond.methodLink RX3 241 yX3_letGoBehind, Cond.instanceMethod yX3_letGoBehind, Cond.selects RX3 yX3_letGoBehind yX3_letGoBehind, Cond.code yX3_letGoBehind cX3_letGoBehind 6 none, Cond.methodLink RX3 149 yX3_keep, Cond.instanceMethod yX3_keep, Cond.selects RX3 yX3_keep yX3_keep, Cond.code yX3_keep cX3_keep 2 (some .int), Cond.methodLink RX3 184 yX3_notePart, Cond.instanceMethod yX3_notePart, Cond.selects RX3 yX3_notePart yX3_notePart, Cond.code yX3_notePart cX3_notePart 3 none, Cond.fieldLink RX3 49 "DiagramBench" "partedOutput" "I", Cond.fieldLink RX3 52 "DiagramBench" "partedAssignment" "I", Cond.methodLink RX3 175 yX2_leastFor, Cond.instanceMethod yX2_leastFor]
def wsX3_equal_r8 : List Cond := [Cond.selects RX2 yX2_leastFor yX2_leastFor, Cond.code yX2_leastFor cX2_leastFor 7 (some .int), Cond.methodLink RX2 95 yX1_variableAt, Cond.instanceMethod yX1_variableAt, Cond.selects RX1 yX1_variableAt yX1_variableAt, Cond.code yX1_variableAt cX1_variableAt 2 (some .int), Cond.fieldLink RX1 9 "DiagramBench$Order" "variables" "[I", Cond.methodLink RX3 188 yX3_endSteps, Cond.instanceMethod yX3_endSteps, Cond.selects RX3 yX3_endSteps yX3_endSteps, Cond.code yX3_endSteps cX3_endSteps 1 none, Cond.methodLink RX3 56 yJ7_fill_53178]
def wsX3_equal : List Cond := .code yX3_equal cX3_equal 8 (some .int) :: ((wsX3_equal_r1 ++ (wsX3_equal_r2 ++ (wsX3_equal_r3 ++ (wsX3_equal_r4 ++ (wsX3_equal_r5 ++ (wsX3_equal_r6 ++ (wsX3_equal_r7 ++ wsX3_equal_r8))))))) ++ wsX30 ++ wsX00 ++ wsX20 ++ wsX10)
def wsX3_parting : List Cond := .code yX3_parting cX3_parting 2 (some .int) :: ([.fieldLink RX3 49 "DiagramBench" "partedOutput" "I", .fieldLink RX3 52 "DiagramBench" "partedAssignment" "I"] ++ wsX30)
def wsX3_told_r1 : List Cond := [Cond.fieldLink RX3 11 "DiagramBench" "nets" "[LDiagramBench$Net;", Cond.fieldLink RX3 25 "DiagramBench" "pool" "LDiagramBench$Pool;", Cond.methodLink RX3 191 yX0_gateCount, Cond.instanceMethod yX0_gateCount, Cond.selects RX0 yX0_gateCount yX0_gateCount, Cond.initialized RX0, Cond.code yX0_gateCount cX0_gateCount 1 (some .int), Cond.fieldLink RX0 24 "DiagramBench$Net" "gates" "I", Cond.methodLink RX3 181 yX0_outputCount, Cond.instanceMethod yX0_outputCount, Cond.selects RX0 yX0_outputCount yX0_outputCount, Cond.code yX0_outputCount cX0_outputCount 1 (some .int), Cond.fieldLink RX0 28 "DiagramBench$Net" "outputs" "I", Cond.methodLink RX3 98 yX3_heldCount, Cond.instanceMethod yX3_heldCount, Cond.selects RX3 yX3_heldCount yX3_heldCount, Cond.initialized RX3, Cond.code yX3_heldCount cX3_heldCount 3 (some .int), Cond.fieldLink RX3 29 "DiagramBench" "held" "[I", Cond.methodLink RX3 194 yX2_limit, Cond.instanceMethod yX2_limit, Cond.selects RX2 yX2_limit yX2_limit, Cond.initialized RX2, Cond.code yX2_limit cX2_limit 1 (some .int)]
def wsX3_told_r2 : List Cond := [Cond.fieldLink RX2 37 "DiagramBench$Pool" "most" "I"]
def wsX3_told : List Cond := .code yX3_told cX3_told 2 (some .int) :: ((wsX3_told_r1 ++ wsX3_told_r2) ++ wsX30 ++ wsX00 ++ wsX20)
def wsX4_init_r1 : List Cond := [Cond.methodLink RX4 1 objectInit, Cond.instanceMethod objectInit, Cond.code objectInit ⟨#[0xb1]⟩ 1 none, Cond.arrayClass .int, Cond.fieldLink RX4 7 "DiagramBenchModel" "gates" "[I", Cond.fieldLink RX4 13 "DiagramBenchModel" "outputs" "[I", Cond.fieldLink RX4 16 "DiagramBenchModel" "kind" "[I", Cond.fieldLink RX4 19 "DiagramBenchModel" "of" "[I", Cond.fieldLink RX4 22 "DiagramBenchModel" "outputAt" "[I", Cond.arrayClass .boolean, Cond.fieldLink RX4 25 "DiagramBenchModel" "on" "[Z", Cond.fieldLink RX4 29 "DiagramBenchModel" "order" "[I", Cond.fieldLink RX4 32 "DiagramBenchModel" "placeOf" "[I", Cond.fieldLink RX4 35 "DiagramBenchModel" "seen" "[Z", Cond.fieldLink RX4 38 "DiagramBenchModel" "pile" "[I", Cond.fieldLink RX4 41 "DiagramBenchModel" "child" "[I", Cond.fieldLink RX4 44 "DiagramBenchModel" "has" "[Z", Cond.arrayClass .long, Cond.fieldLink RX4 47 "DiagramBenchModel" "bits" "[J", Cond.fieldLink RX4 51 "DiagramBenchModel" "nodeMany" "[I", Cond.fieldLink RX4 54 "DiagramBenchModel" "nodeOf" "[I", Cond.fieldLink RX4 57 "DiagramBenchModel" "depth" "[I", Cond.fieldLink RX4 60 "DiagramBenchModel" "key" "[J", Cond.fieldLink RX4 63 "DiagramBenchModel" "held" "[I"]
def wsX4_init_r2 : List Cond := [Cond.fieldLink RX4 66 "DiagramBenchModel" "next" "[I", Cond.fieldLink RX4 69 "DiagramBenchModel" "head" "[I", Cond.fieldLink RX4 72 "DiagramBenchModel" "mark" "[I", Cond.fieldLink RX4 75 "DiagramBenchModel" "part" "[J", Cond.constantLong RX4 78 (-4294967296), Cond.constantLong RX4 80 (-281470681808896), Cond.constantLong RX4 82 (-71777214294589696), Cond.constantLong RX4 84 (-1085102592571150096), Cond.constantLong RX4 86 (-3689348814741910324), Cond.constantLong RX4 88 (-6148914691236517206), Cond.fieldLink RX4 90 "DiagramBenchModel" "where" "[J", Cond.fieldLink RX4 93 "DiagramBenchModel" "needed" "[Z", Cond.fieldLink RX4 96 "DiagramBenchModel" "lastNeed" "[I", Cond.fieldLink RX4 99 "DiagramBenchModel" "ways" "[I", Cond.fieldLink RX4 102 "DiagramBenchModel" "room" "I", Cond.fieldLink RX4 106 "DiagramBenchModel" "parted" "I", Cond.fieldLink RX4 109 "DiagramBenchModel" "parting" "I"]
def wsX4_init : List Cond := .code yX4_init cX4_init 2 none :: ((wsX4_init_r1 ++ wsX4_init_r2) ++ wsX40)
def wsX4_in : List Cond := .code yX4_in cX4_in 3 (some .boolean) :: ([])
def wsX4_isNet : List Cond := .code yX4_isNet cX4_isNet 1 (some .boolean) :: ([.methodLink RX4 112 yX4_in, .static yX4_in, .initialized RX4, .code yX4_in cX4_in 3 (some .boolean)])
def wsX4_isGate : List Cond := .code yX4_isGate cX4_isGate 3 (some .boolean) :: ([.fieldLink RX4 7 "DiagramBenchModel" "gates" "[I", .methodLink RX4 112 yX4_in, .static yX4_in, .initialized RX4, .code yX4_in cX4_in 3 (some .boolean)] ++ wsX40)
def wsX4_isOutput : List Cond := .code yX4_isOutput cX4_isOutput 3 (some .boolean) :: ([.fieldLink RX4 13 "DiagramBenchModel" "outputs" "[I", .methodLink RX4 116 yX4_isNet, .static yX4_isNet, .initialized RX4, .code yX4_isNet cX4_isNet 1 (some .boolean), .methodLink RX4 112 yX4_in, .static yX4_in, .code yX4_in cX4_in 3 (some .boolean)] ++ wsX40)
def wsX4_wants : List Cond := .code yX4_wants cX4_wants 1 (some .int) :: ([])
def wsX4_gate : List Cond := .code yX4_gate cX4_gate 8 (some .int) :: ([.fieldLink RX4 7 "DiagramBenchModel" "gates" "[I", .fieldLink RX4 16 "DiagramBenchModel" "kind" "[I", .fieldLink RX4 19 "DiagramBenchModel" "of" "[I", .methodLink RX4 116 yX4_isNet, .static yX4_isNet, .initialized RX4, .code yX4_isNet cX4_isNet 1 (some .boolean), .methodLink RX4 112 yX4_in, .static yX4_in, .code yX4_in cX4_in 3 (some .boolean), .methodLink RX4 120 yX4_wants, .static yX4_wants, .code yX4_wants cX4_wants 1 (some .int), .methodLink RX4 124 yX4_isGate, .instanceMethod yX4_isGate, .selects RX4 yX4_isGate yX4_isGate, .code yX4_isGate cX4_isGate 3 (some .boolean)] ++ wsX40)
def wsX4_output : List Cond := .code yX4_output cX4_output 3 (some .int) :: ([.fieldLink RX4 13 "DiagramBenchModel" "outputs" "[I", .fieldLink RX4 22 "DiagramBenchModel" "outputAt" "[I", .methodLink RX4 116 yX4_isNet, .static yX4_isNet, .initialized RX4, .code yX4_isNet cX4_isNet 1 (some .boolean), .methodLink RX4 112 yX4_in, .static yX4_in, .code yX4_in cX4_in 3 (some .boolean), .methodLink RX4 124 yX4_isGate, .instanceMethod yX4_isGate, .selects RX4 yX4_isGate yX4_isGate, .code yX4_isGate cX4_isGate 3 (some .boolean), .fieldLink RX4 7 "DiagramBenchModel" "gates" "[I"] ++ wsX40)
def wsX4_clear : List Cond := .code yX4_clear cX4_clear 3 (some .int) :: ([.fieldLink RX4 7 "DiagramBenchModel" "gates" "[I", .fieldLink RX4 13 "DiagramBenchModel" "outputs" "[I", .methodLink RX4 116 yX4_isNet, .static yX4_isNet, .initialized RX4, .code yX4_isNet cX4_isNet 1 (some .boolean), .methodLink RX4 112 yX4_in, .static yX4_in, .code yX4_in cX4_in 3 (some .boolean)] ++ wsX40)
def wsX4_combined : List Cond := .code yX4_combined cX4_combined 3 (some .boolean) :: ([])
def wsX4_gives : List Cond := .code yX4_gives cX4_gives 10 (some .int) :: ([.fieldLink RX4 7 "DiagramBenchModel" "gates" "[I", .fieldLink RX4 16 "DiagramBenchModel" "kind" "[I", .fieldLink RX4 25 "DiagramBenchModel" "on" "[Z", .fieldLink RX4 19 "DiagramBenchModel" "of" "[I", .fieldLink RX4 22 "DiagramBenchModel" "outputAt" "[I", .methodLink RX4 128 yX4_isOutput, .instanceMethod yX4_isOutput, .selects RX4 yX4_isOutput yX4_isOutput, .initialized RX4, .code yX4_isOutput cX4_isOutput 3 (some .boolean), .fieldLink RX4 13 "DiagramBenchModel" "outputs" "[I", .methodLink RX4 116 yX4_isNet, .static yX4_isNet, .code yX4_isNet cX4_isNet 1 (some .boolean), .methodLink RX4 112 yX4_in, .static yX4_in, .code yX4_in cX4_in 3 (some .boolean), .methodLink RX4 120 yX4_wants, .static yX4_wants, .code yX4_wants cX4_wants 1 (some .int), .methodLink RX4 131 yX4_combined, .static yX4_combined, .code yX4_combined cX4_combined 3 (some .boolean)] ++ wsX40)
def wsX4_isEmpty : List Cond := .code yX4_isEmpty cX4_isEmpty 3 (some .boolean) :: ([.fieldLink RX4 44 "DiagramBenchModel" "has" "[Z"] ++ wsX40)
def wsX4_go : List Cond := .code yX4_go cX4_go 4 none :: ([.fieldLink RX4 35 "DiagramBenchModel" "seen" "[Z", .fieldLink RX4 38 "DiagramBenchModel" "pile" "[I", .fieldLink RX4 135 "DiagramBenchModel" "piled" "I", .fieldLink RX4 41 "DiagramBenchModel" "child" "[I", .fieldLink RX4 16 "DiagramBenchModel" "kind" "[I", .fieldLink RX4 32 "DiagramBenchModel" "placeOf" "[I", .fieldLink RX4 19 "DiagramBenchModel" "of" "[I", .fieldLink RX4 138 "DiagramBenchModel" "found" "I", .fieldLink RX4 29 "DiagramBenchModel" "order" "[I"] ++ wsX40)
def wsX4_order_r1 : List Cond := [Cond.fieldLink RX4 138 "DiagramBenchModel" "found" "I", Cond.fieldLink RX4 135 "DiagramBenchModel" "piled" "I", Cond.fieldLink RX4 35 "DiagramBenchModel" "seen" "[Z", Cond.fieldLink RX4 32 "DiagramBenchModel" "placeOf" "[I", Cond.fieldLink RX4 13 "DiagramBenchModel" "outputs" "[I", Cond.fieldLink RX4 22 "DiagramBenchModel" "outputAt" "[I", Cond.fieldLink RX4 38 "DiagramBenchModel" "pile" "[I", Cond.fieldLink RX4 41 "DiagramBenchModel" "child" "[I", Cond.fieldLink RX4 16 "DiagramBenchModel" "kind" "[I", Cond.fieldLink RX4 19 "DiagramBenchModel" "of" "[I", Cond.fieldLink RX4 29 "DiagramBenchModel" "order" "[I", Cond.methodLink RX4 116 yX4_isNet, Cond.static yX4_isNet, Cond.initialized RX4, Cond.code yX4_isNet cX4_isNet 1 (some .boolean), Cond.methodLink RX4 112 yX4_in, Cond.static yX4_in, Cond.code yX4_in cX4_in 3 (some .boolean), Cond.methodLink RX4 141 yX4_isEmpty, Cond.instanceMethod yX4_isEmpty, Cond.selects RX4 yX4_isEmpty yX4_isEmpty, Cond.code yX4_isEmpty cX4_isEmpty 3 (some .boolean), Cond.fieldLink RX4 44 "DiagramBenchModel" "has" "[Z", Cond.methodLink RX4 145 yX4_go]
def wsX4_order_r2 : List Cond := [Cond.instanceMethod yX4_go, Cond.selects RX4 yX4_go yX4_go, Cond.code yX4_go cX4_go 4 none, Cond.methodLink RX4 120 yX4_wants, Cond.static yX4_wants, Cond.code yX4_wants cX4_wants 1 (some .int)]
def wsX4_order : List Cond := .code yX4_order cX4_order 5 (some .int) :: ((wsX4_order_r1 ++ wsX4_order_r2) ++ wsX40)
def wsX4_move : List Cond := .code yX4_move cX4_move 6 (some .int) :: ([.fieldLink RX4 32 "DiagramBenchModel" "placeOf" "[I", .fieldLink RX4 29 "DiagramBenchModel" "order" "[I", .methodLink RX4 112 yX4_in, .static yX4_in, .initialized RX4, .code yX4_in cX4_in 3 (some .boolean), .methodLink RX4 141 yX4_isEmpty, .instanceMethod yX4_isEmpty, .selects RX4 yX4_isEmpty yX4_isEmpty, .code yX4_isEmpty cX4_isEmpty 3 (some .boolean), .fieldLink RX4 44 "DiagramBenchModel" "has" "[Z"] ++ wsX40)
def wsX4_at : List Cond := .code yX4_at cX4_at 2 (some .int) :: ([.fieldLink RX4 29 "DiagramBenchModel" "order" "[I", .methodLink RX4 112 yX4_in, .static yX4_in, .initialized RX4, .code yX4_in cX4_in 3 (some .boolean)] ++ wsX40)
def wsX4_room : List Cond := .code yX4_room cX4_room 3 (some .int) :: ([.fieldLink RX4 149 "DiagramBenchModel" "using" "I", .fieldLink RX4 102 "DiagramBenchModel" "room" "I", .methodLink RX4 112 yX4_in, .static yX4_in, .initialized RX4, .code yX4_in cX4_in 3 (some .boolean)] ++ wsX40)
def wsX4_bit : List Cond := .code yX4_bit cX4_bit 3 (some .boolean) :: ([.fieldLink RX4 47 "DiagramBenchModel" "bits" "[J"] ++ wsX40)
def wsX4_lays : List Cond := .code yX4_lays cX4_lays 10 (some .boolean) :: ([.fieldLink RX4 47 "DiagramBenchModel" "bits" "[J", .fieldLink RX4 75 "DiagramBenchModel" "part" "[J"] ++ wsX40)
def wsX4_bucket : List Cond := .code yX4_bucket cX4_bucket 5 (some .int) :: ([.constantLong RX4 152 (1000003), .fieldLink RX4 75 "DiagramBenchModel" "part" "[J"] ++ wsX40)
def wsX4_nodeFor : List Cond := .code yX4_nodeFor cX4_nodeFor 5 (some .int) :: ([.fieldLink RX4 69 "DiagramBenchModel" "head" "[I", .fieldLink RX4 57 "DiagramBenchModel" "depth" "[I", .fieldLink RX4 60 "DiagramBenchModel" "key" "[J", .fieldLink RX4 75 "DiagramBenchModel" "part" "[J", .fieldLink RX4 66 "DiagramBenchModel" "next" "[I", .fieldLink RX4 157 "DiagramBenchModel" "free" "I", .fieldLink RX4 63 "DiagramBenchModel" "held" "[I", .methodLink RX4 154 yX4_bucket, .instanceMethod yX4_bucket, .selects RX4 yX4_bucket yX4_bucket, .initialized RX4, .code yX4_bucket cX4_bucket 5 (some .int), .constantLong RX4 152 (1000003)] ++ wsX40)
def wsX4_unlink : List Cond := .code yX4_unlink cX4_unlink 4 none :: ([.fieldLink RX4 75 "DiagramBenchModel" "part" "[J", .fieldLink RX4 60 "DiagramBenchModel" "key" "[J", .fieldLink RX4 57 "DiagramBenchModel" "depth" "[I", .fieldLink RX4 69 "DiagramBenchModel" "head" "[I", .fieldLink RX4 66 "DiagramBenchModel" "next" "[I", .fieldLink RX4 157 "DiagramBenchModel" "free" "I", .methodLink RX4 154 yX4_bucket, .instanceMethod yX4_bucket, .selects RX4 yX4_bucket yX4_bucket, .initialized RX4, .code yX4_bucket cX4_bucket 5 (some .int), .constantLong RX4 152 (1000003)] ++ wsX40)
def wsX4_add_r1 : List Cond := [Cond.fieldLink RX4 44 "DiagramBenchModel" "has" "[Z", Cond.fieldLink RX4 51 "DiagramBenchModel" "nodeMany" "[I", Cond.fieldLink RX4 160 "DiagramBenchModel" "marked" "I", Cond.fieldLink RX4 72 "DiagramBenchModel" "mark" "[I", Cond.fieldLink RX4 149 "DiagramBenchModel" "using" "I", Cond.fieldLink RX4 63 "DiagramBenchModel" "held" "[I", Cond.fieldLink RX4 54 "DiagramBenchModel" "nodeOf" "[I", Cond.methodLink RX4 163 yX4_lays, Cond.instanceMethod yX4_lays, Cond.selects RX4 yX4_lays yX4_lays, Cond.initialized RX4, Cond.code yX4_lays cX4_lays 10 (some .boolean), Cond.fieldLink RX4 47 "DiagramBenchModel" "bits" "[J", Cond.fieldLink RX4 75 "DiagramBenchModel" "part" "[J", Cond.methodLink RX4 166 yX4_nodeFor, Cond.instanceMethod yX4_nodeFor, Cond.selects RX4 yX4_nodeFor yX4_nodeFor, Cond.code yX4_nodeFor cX4_nodeFor 5 (some .int), Cond.fieldLink RX4 69 "DiagramBenchModel" "head" "[I", Cond.fieldLink RX4 57 "DiagramBenchModel" "depth" "[I", Cond.fieldLink RX4 60 "DiagramBenchModel" "key" "[J", Cond.fieldLink RX4 66 "DiagramBenchModel" "next" "[I", Cond.fieldLink RX4 157 "DiagramBenchModel" "free" "I", Cond.methodLink RX4 154 yX4_bucket]
def wsX4_add_r2 : List Cond := [Cond.instanceMethod yX4_bucket, Cond.selects RX4 yX4_bucket yX4_bucket, Cond.code yX4_bucket cX4_bucket 5 (some .int), Cond.constantLong RX4 152 (1000003)]
def wsX4_add : List Cond := .code yX4_add cX4_add 5 none :: ((wsX4_add_r1 ++ wsX4_add_r2) ++ wsX40)
def wsX4_remove : List Cond := .code yX4_remove cX4_remove 4 none :: ([.fieldLink RX4 51 "DiagramBenchModel" "nodeMany" "[I", .fieldLink RX4 44 "DiagramBenchModel" "has" "[Z", .fieldLink RX4 54 "DiagramBenchModel" "nodeOf" "[I", .fieldLink RX4 63 "DiagramBenchModel" "held" "[I", .fieldLink RX4 149 "DiagramBenchModel" "using" "I", .fieldLink RX4 72 "DiagramBenchModel" "mark" "[I", .methodLink RX4 169 yX4_unlink, .instanceMethod yX4_unlink, .selects RX4 yX4_unlink yX4_unlink, .initialized RX4, .code yX4_unlink cX4_unlink 4 none, .fieldLink RX4 75 "DiagramBenchModel" "part" "[J", .fieldLink RX4 60 "DiagramBenchModel" "key" "[J", .fieldLink RX4 57 "DiagramBenchModel" "depth" "[I", .fieldLink RX4 69 "DiagramBenchModel" "head" "[I", .fieldLink RX4 66 "DiagramBenchModel" "next" "[I", .fieldLink RX4 157 "DiagramBenchModel" "free" "I", .methodLink RX4 154 yX4_bucket, .instanceMethod yX4_bucket, .selects RX4 yX4_bucket yX4_bucket, .code yX4_bucket cX4_bucket 5 (some .int), .constantLong RX4 152 (1000003)] ++ wsX40)
def wsX4_steps_r1 : List Cond := [Cond.fieldLink RX4 149 "DiagramBenchModel" "using" "I", Cond.fieldLink RX4 102 "DiagramBenchModel" "room" "I", Cond.fieldLink RX4 176 "DiagramBenchModel" "peak" "I", Cond.methodLink RX4 173 yX4_add, Cond.instanceMethod yX4_add, Cond.selects RX4 yX4_add yX4_add, Cond.initialized RX4, Cond.code yX4_add cX4_add 5 none, Cond.fieldLink RX4 44 "DiagramBenchModel" "has" "[Z", Cond.fieldLink RX4 51 "DiagramBenchModel" "nodeMany" "[I", Cond.fieldLink RX4 160 "DiagramBenchModel" "marked" "I", Cond.fieldLink RX4 72 "DiagramBenchModel" "mark" "[I", Cond.fieldLink RX4 63 "DiagramBenchModel" "held" "[I", Cond.fieldLink RX4 54 "DiagramBenchModel" "nodeOf" "[I", Cond.methodLink RX4 163 yX4_lays, Cond.instanceMethod yX4_lays, Cond.selects RX4 yX4_lays yX4_lays, Cond.code yX4_lays cX4_lays 10 (some .boolean), Cond.fieldLink RX4 47 "DiagramBenchModel" "bits" "[J", Cond.fieldLink RX4 75 "DiagramBenchModel" "part" "[J", Cond.methodLink RX4 166 yX4_nodeFor, Cond.instanceMethod yX4_nodeFor, Cond.selects RX4 yX4_nodeFor yX4_nodeFor, Cond.code yX4_nodeFor cX4_nodeFor 5 (some .int)]
def wsX4_steps_r2 : List Cond := [Cond.fieldLink RX4 69 "DiagramBenchModel" "head" "[I", Cond.fieldLink RX4 57 "DiagramBenchModel" "depth" "[I", Cond.fieldLink RX4 60 "DiagramBenchModel" "key" "[J", Cond.fieldLink RX4 66 "DiagramBenchModel" "next" "[I", Cond.fieldLink RX4 157 "DiagramBenchModel" "free" "I", Cond.methodLink RX4 154 yX4_bucket, Cond.instanceMethod yX4_bucket, Cond.selects RX4 yX4_bucket yX4_bucket, Cond.code yX4_bucket cX4_bucket 5 (some .int), Cond.constantLong RX4 152 (1000003)]
def wsX4_steps : List Cond := .code yX4_steps cX4_steps 2 (some .boolean) :: ((wsX4_steps_r1 ++ wsX4_steps_r2) ++ wsX40)
def wsX4_clearHand_r1 : List Cond := [Cond.methodLink RX4 179 yX4_remove, Cond.instanceMethod yX4_remove, Cond.selects RX4 yX4_remove yX4_remove, Cond.initialized RX4, Cond.code yX4_remove cX4_remove 4 none, Cond.fieldLink RX4 51 "DiagramBenchModel" "nodeMany" "[I", Cond.fieldLink RX4 44 "DiagramBenchModel" "has" "[Z", Cond.fieldLink RX4 54 "DiagramBenchModel" "nodeOf" "[I", Cond.fieldLink RX4 63 "DiagramBenchModel" "held" "[I", Cond.fieldLink RX4 149 "DiagramBenchModel" "using" "I", Cond.fieldLink RX4 72 "DiagramBenchModel" "mark" "[I", Cond.methodLink RX4 169 yX4_unlink, Cond.instanceMethod yX4_unlink, Cond.selects RX4 yX4_unlink yX4_unlink, Cond.code yX4_unlink cX4_unlink 4 none, Cond.fieldLink RX4 75 "DiagramBenchModel" "part" "[J", Cond.fieldLink RX4 60 "DiagramBenchModel" "key" "[J", Cond.fieldLink RX4 57 "DiagramBenchModel" "depth" "[I", Cond.fieldLink RX4 69 "DiagramBenchModel" "head" "[I", Cond.fieldLink RX4 66 "DiagramBenchModel" "next" "[I", Cond.fieldLink RX4 157 "DiagramBenchModel" "free" "I", Cond.methodLink RX4 154 yX4_bucket, Cond.instanceMethod yX4_bucket, Cond.selects RX4 yX4_bucket yX4_bucket]
def wsX4_clearHand_r2 : List Cond := [Cond.code yX4_bucket cX4_bucket 5 (some .int), Cond.constantLong RX4 152 (1000003)]
def wsX4_clearHand : List Cond := .code yX4_clearHand cX4_clearHand 2 none :: ((wsX4_clearHand_r1 ++ wsX4_clearHand_r2) ++ wsX40)
def wsX4_take_r1 : List Cond := [Cond.fieldLink RX4 47 "DiagramBenchModel" "bits" "[J", Cond.methodLink RX4 179 yX4_remove, Cond.instanceMethod yX4_remove, Cond.selects RX4 yX4_remove yX4_remove, Cond.initialized RX4, Cond.code yX4_remove cX4_remove 4 none, Cond.fieldLink RX4 51 "DiagramBenchModel" "nodeMany" "[I", Cond.fieldLink RX4 44 "DiagramBenchModel" "has" "[Z", Cond.fieldLink RX4 54 "DiagramBenchModel" "nodeOf" "[I", Cond.fieldLink RX4 63 "DiagramBenchModel" "held" "[I", Cond.fieldLink RX4 149 "DiagramBenchModel" "using" "I", Cond.fieldLink RX4 72 "DiagramBenchModel" "mark" "[I", Cond.methodLink RX4 169 yX4_unlink, Cond.instanceMethod yX4_unlink, Cond.selects RX4 yX4_unlink yX4_unlink, Cond.code yX4_unlink cX4_unlink 4 none, Cond.fieldLink RX4 75 "DiagramBenchModel" "part" "[J", Cond.fieldLink RX4 60 "DiagramBenchModel" "key" "[J", Cond.fieldLink RX4 57 "DiagramBenchModel" "depth" "[I", Cond.fieldLink RX4 69 "DiagramBenchModel" "head" "[I", Cond.fieldLink RX4 66 "DiagramBenchModel" "next" "[I", Cond.fieldLink RX4 157 "DiagramBenchModel" "free" "I", Cond.methodLink RX4 154 yX4_bucket, Cond.instanceMethod yX4_bucket]
def wsX4_take_r2 : List Cond := [Cond.selects RX4 yX4_bucket yX4_bucket, Cond.code yX4_bucket cX4_bucket 5 (some .int), Cond.constantLong RX4 152 (1000003), Cond.methodLink RX4 173 yX4_add, Cond.instanceMethod yX4_add, Cond.selects RX4 yX4_add yX4_add, Cond.code yX4_add cX4_add 5 none, Cond.fieldLink RX4 160 "DiagramBenchModel" "marked" "I", Cond.methodLink RX4 163 yX4_lays, Cond.instanceMethod yX4_lays, Cond.selects RX4 yX4_lays yX4_lays, Cond.code yX4_lays cX4_lays 10 (some .boolean), Cond.methodLink RX4 166 yX4_nodeFor, Cond.instanceMethod yX4_nodeFor, Cond.selects RX4 yX4_nodeFor yX4_nodeFor, Cond.code yX4_nodeFor cX4_nodeFor 5 (some .int)]
def wsX4_take : List Cond := .code yX4_take cX4_take 4 none :: ((wsX4_take_r1 ++ wsX4_take_r2) ++ wsX40)
def wsX4_gets_r1 : List Cond := [Cond.fieldLink RX4 51 "DiagramBenchModel" "nodeMany" "[I", Cond.methodLink RX4 182 yX4_take, Cond.instanceMethod yX4_take, Cond.selects RX4 yX4_take yX4_take, Cond.initialized RX4, Cond.code yX4_take cX4_take 4 none, Cond.fieldLink RX4 47 "DiagramBenchModel" "bits" "[J", Cond.methodLink RX4 179 yX4_remove, Cond.instanceMethod yX4_remove, Cond.selects RX4 yX4_remove yX4_remove, Cond.code yX4_remove cX4_remove 4 none, Cond.fieldLink RX4 44 "DiagramBenchModel" "has" "[Z", Cond.fieldLink RX4 54 "DiagramBenchModel" "nodeOf" "[I", Cond.fieldLink RX4 63 "DiagramBenchModel" "held" "[I", Cond.fieldLink RX4 149 "DiagramBenchModel" "using" "I", Cond.fieldLink RX4 72 "DiagramBenchModel" "mark" "[I", Cond.methodLink RX4 169 yX4_unlink, Cond.instanceMethod yX4_unlink, Cond.selects RX4 yX4_unlink yX4_unlink, Cond.code yX4_unlink cX4_unlink 4 none, Cond.fieldLink RX4 75 "DiagramBenchModel" "part" "[J", Cond.fieldLink RX4 60 "DiagramBenchModel" "key" "[J", Cond.fieldLink RX4 57 "DiagramBenchModel" "depth" "[I", Cond.fieldLink RX4 69 "DiagramBenchModel" "head" "[I"]
def wsX4_gets_r2 : List Cond := [Cond.fieldLink RX4 66 "DiagramBenchModel" "next" "[I", Cond.fieldLink RX4 157 "DiagramBenchModel" "free" "I", Cond.methodLink RX4 154 yX4_bucket, Cond.instanceMethod yX4_bucket, Cond.selects RX4 yX4_bucket yX4_bucket, Cond.code yX4_bucket cX4_bucket 5 (some .int), Cond.constantLong RX4 152 (1000003), Cond.methodLink RX4 173 yX4_add, Cond.instanceMethod yX4_add, Cond.selects RX4 yX4_add yX4_add, Cond.code yX4_add cX4_add 5 none, Cond.fieldLink RX4 160 "DiagramBenchModel" "marked" "I", Cond.methodLink RX4 163 yX4_lays, Cond.instanceMethod yX4_lays, Cond.selects RX4 yX4_lays yX4_lays, Cond.code yX4_lays cX4_lays 10 (some .boolean), Cond.methodLink RX4 166 yX4_nodeFor, Cond.instanceMethod yX4_nodeFor, Cond.selects RX4 yX4_nodeFor yX4_nodeFor, Cond.code yX4_nodeFor cX4_nodeFor 5 (some .int), Cond.methodLink RX4 185 yX4_clearHand, Cond.instanceMethod yX4_clearHand, Cond.selects RX4 yX4_clearHand yX4_clearHand, Cond.code yX4_clearHand cX4_clearHand 2 none]
def wsX4_gets : List Cond := .code yX4_gets cX4_gets 4 (some .int) :: ((wsX4_gets_r1 ++ wsX4_gets_r2) ++ wsX40)
def wsX4_makeVariable : List Cond := .code yX4_makeVariable cX4_makeVariable 5 none :: ([.fieldLink RX4 32 "DiagramBenchModel" "placeOf" "[I", .fieldLink RX4 47 "DiagramBenchModel" "bits" "[J", .fieldLink RX4 90 "DiagramBenchModel" "where" "[J", .constantLong RX4 188 (-1)] ++ wsX40)
def wsX4_joined : List Cond := .code yX4_joined cX4_joined 5 (some .long) :: ([.constantLong RX4 188 (-1)])
def wsX4_makeOf : List Cond := .code yX4_makeOf cX4_makeOf 6 none :: ([.fieldLink RX4 47 "DiagramBenchModel" "bits" "[J", .methodLink RX4 190 yX4_joined, .static yX4_joined, .initialized RX4, .code yX4_joined cX4_joined 5 (some .long), .constantLong RX4 188 (-1)] ++ wsX40)
def wsX4_makeChoice : List Cond := .code yX4_makeChoice cX4_makeChoice 8 none :: ([.fieldLink RX4 47 "DiagramBenchModel" "bits" "[J", .constantLong RX4 188 (-1)] ++ wsX40)
def wsX4_makeHalf : List Cond := .code yX4_makeHalf cX4_makeHalf 10 none :: ([.fieldLink RX4 32 "DiagramBenchModel" "placeOf" "[I", .fieldLink RX4 47 "DiagramBenchModel" "bits" "[J", .fieldLink RX4 90 "DiagramBenchModel" "where" "[J", .constantLong RX4 188 (-1)] ++ wsX40)
def wsX4_needs : List Cond := .code yX4_needs cX4_needs 7 none :: ([.fieldLink RX4 93 "DiagramBenchModel" "needed" "[Z", .fieldLink RX4 96 "DiagramBenchModel" "lastNeed" "[I", .fieldLink RX4 16 "DiagramBenchModel" "kind" "[I", .fieldLink RX4 19 "DiagramBenchModel" "of" "[I", .methodLink RX4 120 yX4_wants, .static yX4_wants, .initialized RX4, .code yX4_wants cX4_wants 1 (some .int)] ++ wsX40)
def wsX4_builds_r1 : List Cond := [Cond.fieldLink RX4 93 "DiagramBenchModel" "needed" "[Z", Cond.fieldLink RX4 16 "DiagramBenchModel" "kind" "[I", Cond.fieldLink RX4 19 "DiagramBenchModel" "of" "[I", Cond.fieldLink RX4 96 "DiagramBenchModel" "lastNeed" "[I", Cond.methodLink RX4 194 yX4_needs, Cond.instanceMethod yX4_needs, Cond.selects RX4 yX4_needs yX4_needs, Cond.initialized RX4, Cond.code yX4_needs cX4_needs 7 none, Cond.methodLink RX4 120 yX4_wants, Cond.static yX4_wants, Cond.code yX4_wants cX4_wants 1 (some .int), Cond.methodLink RX4 197 yX4_makeVariable, Cond.instanceMethod yX4_makeVariable, Cond.selects RX4 yX4_makeVariable yX4_makeVariable, Cond.code yX4_makeVariable cX4_makeVariable 5 none, Cond.fieldLink RX4 32 "DiagramBenchModel" "placeOf" "[I", Cond.fieldLink RX4 47 "DiagramBenchModel" "bits" "[J", Cond.fieldLink RX4 90 "DiagramBenchModel" "where" "[J", Cond.constantLong RX4 188 (-1), Cond.methodLink RX4 200 yX4_makeChoice, Cond.instanceMethod yX4_makeChoice, Cond.selects RX4 yX4_makeChoice yX4_makeChoice, Cond.code yX4_makeChoice cX4_makeChoice 8 none]
def wsX4_builds_r2 : List Cond := [Cond.methodLink RX4 204 yX4_makeOf, Cond.instanceMethod yX4_makeOf, Cond.selects RX4 yX4_makeOf yX4_makeOf, Cond.code yX4_makeOf cX4_makeOf 6 none, Cond.methodLink RX4 190 yX4_joined, Cond.static yX4_joined, Cond.code yX4_joined cX4_joined 5 (some .long), Cond.methodLink RX4 207 yX4_steps, Cond.instanceMethod yX4_steps, Cond.selects RX4 yX4_steps yX4_steps, Cond.code yX4_steps cX4_steps 2 (some .boolean), Cond.fieldLink RX4 149 "DiagramBenchModel" "using" "I", Cond.fieldLink RX4 102 "DiagramBenchModel" "room" "I", Cond.fieldLink RX4 176 "DiagramBenchModel" "peak" "I", Cond.methodLink RX4 173 yX4_add, Cond.instanceMethod yX4_add, Cond.selects RX4 yX4_add yX4_add, Cond.code yX4_add cX4_add 5 none, Cond.fieldLink RX4 44 "DiagramBenchModel" "has" "[Z", Cond.fieldLink RX4 51 "DiagramBenchModel" "nodeMany" "[I", Cond.fieldLink RX4 160 "DiagramBenchModel" "marked" "I", Cond.fieldLink RX4 72 "DiagramBenchModel" "mark" "[I", Cond.fieldLink RX4 63 "DiagramBenchModel" "held" "[I", Cond.fieldLink RX4 54 "DiagramBenchModel" "nodeOf" "[I"]
def wsX4_builds_r3 : List Cond := [Cond.methodLink RX4 163 yX4_lays, Cond.instanceMethod yX4_lays, Cond.selects RX4 yX4_lays yX4_lays, Cond.code yX4_lays cX4_lays 10 (some .boolean), Cond.fieldLink RX4 75 "DiagramBenchModel" "part" "[J", Cond.methodLink RX4 166 yX4_nodeFor, Cond.instanceMethod yX4_nodeFor, Cond.selects RX4 yX4_nodeFor yX4_nodeFor, Cond.code yX4_nodeFor cX4_nodeFor 5 (some .int), Cond.fieldLink RX4 69 "DiagramBenchModel" "head" "[I", Cond.fieldLink RX4 57 "DiagramBenchModel" "depth" "[I", Cond.fieldLink RX4 60 "DiagramBenchModel" "key" "[J", Cond.fieldLink RX4 66 "DiagramBenchModel" "next" "[I", Cond.fieldLink RX4 157 "DiagramBenchModel" "free" "I", Cond.methodLink RX4 154 yX4_bucket, Cond.instanceMethod yX4_bucket, Cond.selects RX4 yX4_bucket yX4_bucket, Cond.code yX4_bucket cX4_bucket 5 (some .int), Cond.constantLong RX4 152 (1000003), Cond.methodLink RX4 179 yX4_remove, Cond.instanceMethod yX4_remove, Cond.selects RX4 yX4_remove yX4_remove, Cond.code yX4_remove cX4_remove 4 none, Cond.methodLink RX4 169 yX4_unlink]
def wsX4_builds_r4 : List Cond := [Cond.instanceMethod yX4_unlink, Cond.selects RX4 yX4_unlink yX4_unlink, Cond.code yX4_unlink cX4_unlink 4 none]
def wsX4_builds : List Cond := .code yX4_builds cX4_builds 7 (some .boolean) :: ((wsX4_builds_r1 ++ (wsX4_builds_r2 ++ (wsX4_builds_r3 ++ wsX4_builds_r4))) ++ wsX40)
def wsX4_isHandle : List Cond := .code yX4_isHandle cX4_isHandle 1 (some .boolean) :: ([.methodLink RX4 112 yX4_in, .static yX4_in, .initialized RX4, .code yX4_in cX4_in 3 (some .boolean)])
def wsX4_isFunction : List Cond := .code yX4_isFunction cX4_isFunction 2 (some .boolean) :: ([.fieldLink RX4 44 "DiagramBenchModel" "has" "[Z", .methodLink RX4 210 yX4_isHandle, .static yX4_isHandle, .initialized RX4, .code yX4_isHandle cX4_isHandle 1 (some .boolean), .methodLink RX4 112 yX4_in, .static yX4_in, .code yX4_in cX4_in 3 (some .boolean)] ++ wsX40)
def wsX4_begin : List Cond := .code yX4_begin cX4_begin 1 none :: ([.fieldLink RX4 176 "DiagramBenchModel" "peak" "I"] ++ wsX40)
def wsX4_build_r1 : List Cond := [Cond.fieldLink RX4 22 "DiagramBenchModel" "outputAt" "[I", Cond.methodLink RX4 210 yX4_isHandle, Cond.static yX4_isHandle, Cond.initialized RX4, Cond.code yX4_isHandle cX4_isHandle 1 (some .boolean), Cond.methodLink RX4 112 yX4_in, Cond.static yX4_in, Cond.code yX4_in cX4_in 3 (some .boolean), Cond.methodLink RX4 128 yX4_isOutput, Cond.instanceMethod yX4_isOutput, Cond.selects RX4 yX4_isOutput yX4_isOutput, Cond.code yX4_isOutput cX4_isOutput 3 (some .boolean), Cond.fieldLink RX4 13 "DiagramBenchModel" "outputs" "[I", Cond.methodLink RX4 116 yX4_isNet, Cond.static yX4_isNet, Cond.code yX4_isNet cX4_isNet 1 (some .boolean), Cond.methodLink RX4 213 yX4_begin, Cond.instanceMethod yX4_begin, Cond.selects RX4 yX4_begin yX4_begin, Cond.code yX4_begin cX4_begin 1 none, Cond.fieldLink RX4 176 "DiagramBenchModel" "peak" "I", Cond.methodLink RX4 216 yX4_builds, Cond.instanceMethod yX4_builds, Cond.selects RX4 yX4_builds yX4_builds]
def wsX4_build_r2 : List Cond := [Cond.code yX4_builds cX4_builds 7 (some .boolean), Cond.fieldLink RX4 93 "DiagramBenchModel" "needed" "[Z", Cond.fieldLink RX4 16 "DiagramBenchModel" "kind" "[I", Cond.fieldLink RX4 19 "DiagramBenchModel" "of" "[I", Cond.fieldLink RX4 96 "DiagramBenchModel" "lastNeed" "[I", Cond.methodLink RX4 194 yX4_needs, Cond.instanceMethod yX4_needs, Cond.selects RX4 yX4_needs yX4_needs, Cond.code yX4_needs cX4_needs 7 none, Cond.methodLink RX4 120 yX4_wants, Cond.static yX4_wants, Cond.code yX4_wants cX4_wants 1 (some .int), Cond.methodLink RX4 197 yX4_makeVariable, Cond.instanceMethod yX4_makeVariable, Cond.selects RX4 yX4_makeVariable yX4_makeVariable, Cond.code yX4_makeVariable cX4_makeVariable 5 none, Cond.fieldLink RX4 32 "DiagramBenchModel" "placeOf" "[I", Cond.fieldLink RX4 47 "DiagramBenchModel" "bits" "[J", Cond.fieldLink RX4 90 "DiagramBenchModel" "where" "[J", Cond.constantLong RX4 188 (-1), Cond.methodLink RX4 200 yX4_makeChoice, Cond.instanceMethod yX4_makeChoice, Cond.selects RX4 yX4_makeChoice yX4_makeChoice, Cond.code yX4_makeChoice cX4_makeChoice 8 none]
def wsX4_build_r3 : List Cond := [Cond.methodLink RX4 204 yX4_makeOf, Cond.instanceMethod yX4_makeOf, Cond.selects RX4 yX4_makeOf yX4_makeOf, Cond.code yX4_makeOf cX4_makeOf 6 none, Cond.methodLink RX4 190 yX4_joined, Cond.static yX4_joined, Cond.code yX4_joined cX4_joined 5 (some .long), Cond.methodLink RX4 207 yX4_steps, Cond.instanceMethod yX4_steps, Cond.selects RX4 yX4_steps yX4_steps, Cond.code yX4_steps cX4_steps 2 (some .boolean), Cond.fieldLink RX4 149 "DiagramBenchModel" "using" "I", Cond.fieldLink RX4 102 "DiagramBenchModel" "room" "I", Cond.methodLink RX4 173 yX4_add, Cond.instanceMethod yX4_add, Cond.selects RX4 yX4_add yX4_add, Cond.code yX4_add cX4_add 5 none, Cond.fieldLink RX4 44 "DiagramBenchModel" "has" "[Z", Cond.fieldLink RX4 51 "DiagramBenchModel" "nodeMany" "[I", Cond.fieldLink RX4 160 "DiagramBenchModel" "marked" "I", Cond.fieldLink RX4 72 "DiagramBenchModel" "mark" "[I", Cond.fieldLink RX4 63 "DiagramBenchModel" "held" "[I", Cond.fieldLink RX4 54 "DiagramBenchModel" "nodeOf" "[I", Cond.methodLink RX4 163 yX4_lays]
def wsX4_build_r4 : List Cond := [Cond.instanceMethod yX4_lays, Cond.selects RX4 yX4_lays yX4_lays, Cond.code yX4_lays cX4_lays 10 (some .boolean), Cond.fieldLink RX4 75 "DiagramBenchModel" "part" "[J", Cond.methodLink RX4 166 yX4_nodeFor, Cond.instanceMethod yX4_nodeFor, Cond.selects RX4 yX4_nodeFor yX4_nodeFor, Cond.code yX4_nodeFor cX4_nodeFor 5 (some .int), Cond.fieldLink RX4 69 "DiagramBenchModel" "head" "[I", Cond.fieldLink RX4 57 "DiagramBenchModel" "depth" "[I", Cond.fieldLink RX4 60 "DiagramBenchModel" "key" "[J", Cond.fieldLink RX4 66 "DiagramBenchModel" "next" "[I", Cond.fieldLink RX4 157 "DiagramBenchModel" "free" "I", Cond.methodLink RX4 154 yX4_bucket, Cond.instanceMethod yX4_bucket, Cond.selects RX4 yX4_bucket yX4_bucket, Cond.code yX4_bucket cX4_bucket 5 (some .int), Cond.constantLong RX4 152 (1000003), Cond.methodLink RX4 179 yX4_remove, Cond.instanceMethod yX4_remove, Cond.selects RX4 yX4_remove yX4_remove, Cond.code yX4_remove cX4_remove 4 none, Cond.methodLink RX4 169 yX4_unlink, Cond.instanceMethod yX4_unlink]
def wsX4_build_r5 : List Cond := [Cond.selects RX4 yX4_unlink yX4_unlink, Cond.code yX4_unlink cX4_unlink 4 none, Cond.methodLink RX4 219 yX4_gets, Cond.instanceMethod yX4_gets, Cond.selects RX4 yX4_gets yX4_gets, Cond.code yX4_gets cX4_gets 4 (some .int), Cond.methodLink RX4 182 yX4_take, Cond.instanceMethod yX4_take, Cond.selects RX4 yX4_take yX4_take, Cond.code yX4_take cX4_take 4 none, Cond.methodLink RX4 185 yX4_clearHand, Cond.instanceMethod yX4_clearHand, Cond.selects RX4 yX4_clearHand yX4_clearHand, Cond.code yX4_clearHand cX4_clearHand 2 none]
def wsX4_build : List Cond := .code yX4_build cX4_build 5 (some .int) :: ((wsX4_build_r1 ++ (wsX4_build_r2 ++ (wsX4_build_r3 ++ (wsX4_build_r4 ++ wsX4_build_r5)))) ++ wsX40)
def wsX4_variable_r1 : List Cond := [Cond.methodLink RX4 210 yX4_isHandle, Cond.static yX4_isHandle, Cond.initialized RX4, Cond.code yX4_isHandle cX4_isHandle 1 (some .boolean), Cond.methodLink RX4 112 yX4_in, Cond.static yX4_in, Cond.code yX4_in cX4_in 3 (some .boolean), Cond.methodLink RX4 213 yX4_begin, Cond.instanceMethod yX4_begin, Cond.selects RX4 yX4_begin yX4_begin, Cond.code yX4_begin cX4_begin 1 none, Cond.fieldLink RX4 176 "DiagramBenchModel" "peak" "I", Cond.methodLink RX4 197 yX4_makeVariable, Cond.instanceMethod yX4_makeVariable, Cond.selects RX4 yX4_makeVariable yX4_makeVariable, Cond.code yX4_makeVariable cX4_makeVariable 5 none, Cond.fieldLink RX4 32 "DiagramBenchModel" "placeOf" "[I", Cond.fieldLink RX4 47 "DiagramBenchModel" "bits" "[J", Cond.fieldLink RX4 90 "DiagramBenchModel" "where" "[J", Cond.constantLong RX4 188 (-1), Cond.methodLink RX4 207 yX4_steps, Cond.instanceMethod yX4_steps, Cond.selects RX4 yX4_steps yX4_steps, Cond.code yX4_steps cX4_steps 2 (some .boolean)]
def wsX4_variable_r2 : List Cond := [Cond.fieldLink RX4 149 "DiagramBenchModel" "using" "I", Cond.fieldLink RX4 102 "DiagramBenchModel" "room" "I", Cond.methodLink RX4 173 yX4_add, Cond.instanceMethod yX4_add, Cond.selects RX4 yX4_add yX4_add, Cond.code yX4_add cX4_add 5 none, Cond.fieldLink RX4 44 "DiagramBenchModel" "has" "[Z", Cond.fieldLink RX4 51 "DiagramBenchModel" "nodeMany" "[I", Cond.fieldLink RX4 160 "DiagramBenchModel" "marked" "I", Cond.fieldLink RX4 72 "DiagramBenchModel" "mark" "[I", Cond.fieldLink RX4 63 "DiagramBenchModel" "held" "[I", Cond.fieldLink RX4 54 "DiagramBenchModel" "nodeOf" "[I", Cond.methodLink RX4 163 yX4_lays, Cond.instanceMethod yX4_lays, Cond.selects RX4 yX4_lays yX4_lays, Cond.code yX4_lays cX4_lays 10 (some .boolean), Cond.fieldLink RX4 75 "DiagramBenchModel" "part" "[J", Cond.methodLink RX4 166 yX4_nodeFor, Cond.instanceMethod yX4_nodeFor, Cond.selects RX4 yX4_nodeFor yX4_nodeFor, Cond.code yX4_nodeFor cX4_nodeFor 5 (some .int), Cond.fieldLink RX4 69 "DiagramBenchModel" "head" "[I", Cond.fieldLink RX4 57 "DiagramBenchModel" "depth" "[I", Cond.fieldLink RX4 60 "DiagramBenchModel" "key" "[J"]
def wsX4_variable_r3 : List Cond := [Cond.fieldLink RX4 66 "DiagramBenchModel" "next" "[I", Cond.fieldLink RX4 157 "DiagramBenchModel" "free" "I", Cond.methodLink RX4 154 yX4_bucket, Cond.instanceMethod yX4_bucket, Cond.selects RX4 yX4_bucket yX4_bucket, Cond.code yX4_bucket cX4_bucket 5 (some .int), Cond.constantLong RX4 152 (1000003), Cond.methodLink RX4 219 yX4_gets, Cond.instanceMethod yX4_gets, Cond.selects RX4 yX4_gets yX4_gets, Cond.code yX4_gets cX4_gets 4 (some .int), Cond.methodLink RX4 182 yX4_take, Cond.instanceMethod yX4_take, Cond.selects RX4 yX4_take yX4_take, Cond.code yX4_take cX4_take 4 none, Cond.methodLink RX4 179 yX4_remove, Cond.instanceMethod yX4_remove, Cond.selects RX4 yX4_remove yX4_remove, Cond.code yX4_remove cX4_remove 4 none, Cond.methodLink RX4 169 yX4_unlink, Cond.instanceMethod yX4_unlink, Cond.selects RX4 yX4_unlink yX4_unlink, Cond.code yX4_unlink cX4_unlink 4 none, Cond.methodLink RX4 185 yX4_clearHand]
def wsX4_variable_r4 : List Cond := [Cond.instanceMethod yX4_clearHand, Cond.selects RX4 yX4_clearHand yX4_clearHand, Cond.code yX4_clearHand cX4_clearHand 2 none]
def wsX4_variable : List Cond := .code yX4_variable cX4_variable 3 (some .int) :: ((wsX4_variable_r1 ++ (wsX4_variable_r2 ++ (wsX4_variable_r3 ++ wsX4_variable_r4))) ++ wsX40)
def wsX4_combine_r1 : List Cond := [Cond.methodLink RX4 210 yX4_isHandle, Cond.static yX4_isHandle, Cond.initialized RX4, Cond.code yX4_isHandle cX4_isHandle 1 (some .boolean), Cond.methodLink RX4 112 yX4_in, Cond.static yX4_in, Cond.code yX4_in cX4_in 3 (some .boolean), Cond.methodLink RX4 223 yX4_isFunction, Cond.instanceMethod yX4_isFunction, Cond.selects RX4 yX4_isFunction yX4_isFunction, Cond.code yX4_isFunction cX4_isFunction 2 (some .boolean), Cond.fieldLink RX4 44 "DiagramBenchModel" "has" "[Z", Cond.methodLink RX4 213 yX4_begin, Cond.instanceMethod yX4_begin, Cond.selects RX4 yX4_begin yX4_begin, Cond.code yX4_begin cX4_begin 1 none, Cond.fieldLink RX4 176 "DiagramBenchModel" "peak" "I", Cond.methodLink RX4 204 yX4_makeOf, Cond.instanceMethod yX4_makeOf, Cond.selects RX4 yX4_makeOf yX4_makeOf, Cond.code yX4_makeOf cX4_makeOf 6 none, Cond.fieldLink RX4 47 "DiagramBenchModel" "bits" "[J", Cond.methodLink RX4 190 yX4_joined, Cond.static yX4_joined]
def wsX4_combine_r2 : List Cond := [Cond.code yX4_joined cX4_joined 5 (some .long), Cond.constantLong RX4 188 (-1), Cond.methodLink RX4 207 yX4_steps, Cond.instanceMethod yX4_steps, Cond.selects RX4 yX4_steps yX4_steps, Cond.code yX4_steps cX4_steps 2 (some .boolean), Cond.fieldLink RX4 149 "DiagramBenchModel" "using" "I", Cond.fieldLink RX4 102 "DiagramBenchModel" "room" "I", Cond.methodLink RX4 173 yX4_add, Cond.instanceMethod yX4_add, Cond.selects RX4 yX4_add yX4_add, Cond.code yX4_add cX4_add 5 none, Cond.fieldLink RX4 51 "DiagramBenchModel" "nodeMany" "[I", Cond.fieldLink RX4 160 "DiagramBenchModel" "marked" "I", Cond.fieldLink RX4 72 "DiagramBenchModel" "mark" "[I", Cond.fieldLink RX4 63 "DiagramBenchModel" "held" "[I", Cond.fieldLink RX4 54 "DiagramBenchModel" "nodeOf" "[I", Cond.methodLink RX4 163 yX4_lays, Cond.instanceMethod yX4_lays, Cond.selects RX4 yX4_lays yX4_lays, Cond.code yX4_lays cX4_lays 10 (some .boolean), Cond.fieldLink RX4 75 "DiagramBenchModel" "part" "[J", Cond.methodLink RX4 166 yX4_nodeFor, Cond.instanceMethod yX4_nodeFor]
def wsX4_combine_r3 : List Cond := [Cond.selects RX4 yX4_nodeFor yX4_nodeFor, Cond.code yX4_nodeFor cX4_nodeFor 5 (some .int), Cond.fieldLink RX4 69 "DiagramBenchModel" "head" "[I", Cond.fieldLink RX4 57 "DiagramBenchModel" "depth" "[I", Cond.fieldLink RX4 60 "DiagramBenchModel" "key" "[J", Cond.fieldLink RX4 66 "DiagramBenchModel" "next" "[I", Cond.fieldLink RX4 157 "DiagramBenchModel" "free" "I", Cond.methodLink RX4 154 yX4_bucket, Cond.instanceMethod yX4_bucket, Cond.selects RX4 yX4_bucket yX4_bucket, Cond.code yX4_bucket cX4_bucket 5 (some .int), Cond.constantLong RX4 152 (1000003), Cond.methodLink RX4 219 yX4_gets, Cond.instanceMethod yX4_gets, Cond.selects RX4 yX4_gets yX4_gets, Cond.code yX4_gets cX4_gets 4 (some .int), Cond.methodLink RX4 182 yX4_take, Cond.instanceMethod yX4_take, Cond.selects RX4 yX4_take yX4_take, Cond.code yX4_take cX4_take 4 none, Cond.methodLink RX4 179 yX4_remove, Cond.instanceMethod yX4_remove, Cond.selects RX4 yX4_remove yX4_remove, Cond.code yX4_remove cX4_remove 4 none]
def wsX4_combine_r4 : List Cond := [Cond.methodLink RX4 169 yX4_unlink, Cond.instanceMethod yX4_unlink, Cond.selects RX4 yX4_unlink yX4_unlink, Cond.code yX4_unlink cX4_unlink 4 none, Cond.methodLink RX4 185 yX4_clearHand, Cond.instanceMethod yX4_clearHand, Cond.selects RX4 yX4_clearHand yX4_clearHand, Cond.code yX4_clearHand cX4_clearHand 2 none]
def wsX4_combine : List Cond := .code yX4_combine cX4_combine 5 (some .int) :: ((wsX4_combine_r1 ++ (wsX4_combine_r2 ++ (wsX4_combine_r3 ++ wsX4_combine_r4))) ++ wsX40)
def wsX4_choose_r1 : List Cond := [Cond.methodLink RX4 210 yX4_isHandle, Cond.static yX4_isHandle, Cond.initialized RX4, Cond.code yX4_isHandle cX4_isHandle 1 (some .boolean), Cond.methodLink RX4 112 yX4_in, Cond.static yX4_in, Cond.code yX4_in cX4_in 3 (some .boolean), Cond.methodLink RX4 223 yX4_isFunction, Cond.instanceMethod yX4_isFunction, Cond.selects RX4 yX4_isFunction yX4_isFunction, Cond.code yX4_isFunction cX4_isFunction 2 (some .boolean), Cond.fieldLink RX4 44 "DiagramBenchModel" "has" "[Z", Cond.methodLink RX4 213 yX4_begin, Cond.instanceMethod yX4_begin, Cond.selects RX4 yX4_begin yX4_begin, Cond.code yX4_begin cX4_begin 1 none, Cond.fieldLink RX4 176 "DiagramBenchModel" "peak" "I", Cond.methodLink RX4 200 yX4_makeChoice, Cond.instanceMethod yX4_makeChoice, Cond.selects RX4 yX4_makeChoice yX4_makeChoice, Cond.code yX4_makeChoice cX4_makeChoice 8 none, Cond.fieldLink RX4 47 "DiagramBenchModel" "bits" "[J", Cond.constantLong RX4 188 (-1), Cond.methodLink RX4 207 yX4_steps]
def wsX4_choose_r2 : List Cond := [Cond.instanceMethod yX4_steps, Cond.selects RX4 yX4_steps yX4_steps, Cond.code yX4_steps cX4_steps 2 (some .boolean), Cond.fieldLink RX4 149 "DiagramBenchModel" "using" "I", Cond.fieldLink RX4 102 "DiagramBenchModel" "room" "I", Cond.methodLink RX4 173 yX4_add, Cond.instanceMethod yX4_add, Cond.selects RX4 yX4_add yX4_add, Cond.code yX4_add cX4_add 5 none, Cond.fieldLink RX4 51 "DiagramBenchModel" "nodeMany" "[I", Cond.fieldLink RX4 160 "DiagramBenchModel" "marked" "I", Cond.fieldLink RX4 72 "DiagramBenchModel" "mark" "[I", Cond.fieldLink RX4 63 "DiagramBenchModel" "held" "[I", Cond.fieldLink RX4 54 "DiagramBenchModel" "nodeOf" "[I", Cond.methodLink RX4 163 yX4_lays, Cond.instanceMethod yX4_lays, Cond.selects RX4 yX4_lays yX4_lays, Cond.code yX4_lays cX4_lays 10 (some .boolean), Cond.fieldLink RX4 75 "DiagramBenchModel" "part" "[J", Cond.methodLink RX4 166 yX4_nodeFor, Cond.instanceMethod yX4_nodeFor, Cond.selects RX4 yX4_nodeFor yX4_nodeFor, Cond.code yX4_nodeFor cX4_nodeFor 5 (some .int), Cond.fieldLink RX4 69 "DiagramBenchModel" "head" "[I"]
def wsX4_choose_r3 : List Cond := [Cond.fieldLink RX4 57 "DiagramBenchModel" "depth" "[I", Cond.fieldLink RX4 60 "DiagramBenchModel" "key" "[J", Cond.fieldLink RX4 66 "DiagramBenchModel" "next" "[I", Cond.fieldLink RX4 157 "DiagramBenchModel" "free" "I", Cond.methodLink RX4 154 yX4_bucket, Cond.instanceMethod yX4_bucket, Cond.selects RX4 yX4_bucket yX4_bucket, Cond.code yX4_bucket cX4_bucket 5 (some .int), Cond.constantLong RX4 152 (1000003), Cond.methodLink RX4 219 yX4_gets, Cond.instanceMethod yX4_gets, Cond.selects RX4 yX4_gets yX4_gets, Cond.code yX4_gets cX4_gets 4 (some .int), Cond.methodLink RX4 182 yX4_take, Cond.instanceMethod yX4_take, Cond.selects RX4 yX4_take yX4_take, Cond.code yX4_take cX4_take 4 none, Cond.methodLink RX4 179 yX4_remove, Cond.instanceMethod yX4_remove, Cond.selects RX4 yX4_remove yX4_remove, Cond.code yX4_remove cX4_remove 4 none, Cond.methodLink RX4 169 yX4_unlink, Cond.instanceMethod yX4_unlink, Cond.selects RX4 yX4_unlink yX4_unlink]
def wsX4_choose_r4 : List Cond := [Cond.code yX4_unlink cX4_unlink 4 none, Cond.methodLink RX4 185 yX4_clearHand, Cond.instanceMethod yX4_clearHand, Cond.selects RX4 yX4_clearHand yX4_clearHand, Cond.code yX4_clearHand cX4_clearHand 2 none]
def wsX4_choose : List Cond := .code yX4_choose cX4_choose 5 (some .int) :: ((wsX4_choose_r1 ++ (wsX4_choose_r2 ++ (wsX4_choose_r3 ++ wsX4_choose_r4))) ++ wsX40)
def wsX4_noHalf : List Cond := .code yX4_noHalf cX4_noHalf 4 (some .int) :: ([.methodLink RX4 210 yX4_isHandle, .static yX4_isHandle, .initialized RX4, .code yX4_isHandle cX4_isHandle 1 (some .boolean), .methodLink RX4 112 yX4_in, .static yX4_in, .code yX4_in cX4_in 3 (some .boolean), .methodLink RX4 223 yX4_isFunction, .instanceMethod yX4_isFunction, .selects RX4 yX4_isFunction yX4_isFunction, .code yX4_isFunction cX4_isFunction 2 (some .boolean), .fieldLink RX4 44 "DiagramBenchModel" "has" "[Z"] ++ wsX40)
def wsX4_restrict_r1 : List Cond := [Cond.methodLink RX4 226 yX4_noHalf, Cond.instanceMethod yX4_noHalf, Cond.selects RX4 yX4_noHalf yX4_noHalf, Cond.initialized RX4, Cond.code yX4_noHalf cX4_noHalf 4 (some .int), Cond.methodLink RX4 210 yX4_isHandle, Cond.static yX4_isHandle, Cond.code yX4_isHandle cX4_isHandle 1 (some .boolean), Cond.methodLink RX4 112 yX4_in, Cond.static yX4_in, Cond.code yX4_in cX4_in 3 (some .boolean), Cond.methodLink RX4 223 yX4_isFunction, Cond.instanceMethod yX4_isFunction, Cond.selects RX4 yX4_isFunction yX4_isFunction, Cond.code yX4_isFunction cX4_isFunction 2 (some .boolean), Cond.fieldLink RX4 44 "DiagramBenchModel" "has" "[Z", Cond.methodLink RX4 213 yX4_begin, Cond.instanceMethod yX4_begin, Cond.selects RX4 yX4_begin yX4_begin, Cond.code yX4_begin cX4_begin 1 none, Cond.fieldLink RX4 176 "DiagramBenchModel" "peak" "I", Cond.methodLink RX4 230 yX4_makeHalf, Cond.instanceMethod yX4_makeHalf, Cond.selects RX4 yX4_makeHalf yX4_makeHalf]
def wsX4_restrict_r2 : List Cond := [Cond.code yX4_makeHalf cX4_makeHalf 10 none, Cond.fieldLink RX4 32 "DiagramBenchModel" "placeOf" "[I", Cond.fieldLink RX4 47 "DiagramBenchModel" "bits" "[J", Cond.fieldLink RX4 90 "DiagramBenchModel" "where" "[J", Cond.constantLong RX4 188 (-1), Cond.methodLink RX4 207 yX4_steps, Cond.instanceMethod yX4_steps, Cond.selects RX4 yX4_steps yX4_steps, Cond.code yX4_steps cX4_steps 2 (some .boolean), Cond.fieldLink RX4 149 "DiagramBenchModel" "using" "I", Cond.fieldLink RX4 102 "DiagramBenchModel" "room" "I", Cond.methodLink RX4 173 yX4_add, Cond.instanceMethod yX4_add, Cond.selects RX4 yX4_add yX4_add, Cond.code yX4_add cX4_add 5 none, Cond.fieldLink RX4 51 "DiagramBenchModel" "nodeMany" "[I", Cond.fieldLink RX4 160 "DiagramBenchModel" "marked" "I", Cond.fieldLink RX4 72 "DiagramBenchModel" "mark" "[I", Cond.fieldLink RX4 63 "DiagramBenchModel" "held" "[I", Cond.fieldLink RX4 54 "DiagramBenchModel" "nodeOf" "[I", Cond.methodLink RX4 163 yX4_lays, Cond.instanceMethod yX4_lays, Cond.selects RX4 yX4_lays yX4_lays, Cond.code yX4_lays cX4_lays 10 (some .boolean)]
def wsX4_restrict_r3 : List Cond := [Cond.fieldLink RX4 75 "DiagramBenchModel" "part" "[J", Cond.methodLink RX4 166 yX4_nodeFor, Cond.instanceMethod yX4_nodeFor, Cond.selects RX4 yX4_nodeFor yX4_nodeFor, Cond.code yX4_nodeFor cX4_nodeFor 5 (some .int), Cond.fieldLink RX4 69 "DiagramBenchModel" "head" "[I", Cond.fieldLink RX4 57 "DiagramBenchModel" "depth" "[I", Cond.fieldLink RX4 60 "DiagramBenchModel" "key" "[J", Cond.fieldLink RX4 66 "DiagramBenchModel" "next" "[I", Cond.fieldLink RX4 157 "DiagramBenchModel" "free" "I", Cond.methodLink RX4 154 yX4_bucket, Cond.instanceMethod yX4_bucket, Cond.selects RX4 yX4_bucket yX4_bucket, Cond.code yX4_bucket cX4_bucket 5 (some .int), Cond.constantLong RX4 152 (1000003), Cond.methodLink RX4 219 yX4_gets, Cond.instanceMethod yX4_gets, Cond.selects RX4 yX4_gets yX4_gets, Cond.code yX4_gets cX4_gets 4 (some .int), Cond.methodLink RX4 182 yX4_take, Cond.instanceMethod yX4_take, Cond.selects RX4 yX4_take yX4_take, Cond.code yX4_take cX4_take 4 none, Cond.methodLink RX4 179 yX4_remove]
def wsX4_restrict_r4 : List Cond := [Cond.instanceMethod yX4_remove, Cond.selects RX4 yX4_remove yX4_remove, Cond.code yX4_remove cX4_remove 4 none, Cond.methodLink RX4 169 yX4_unlink, Cond.instanceMethod yX4_unlink, Cond.selects RX4 yX4_unlink yX4_unlink, Cond.code yX4_unlink cX4_unlink 4 none, Cond.methodLink RX4 185 yX4_clearHand, Cond.instanceMethod yX4_clearHand, Cond.selects RX4 yX4_clearHand yX4_clearHand, Cond.code yX4_clearHand cX4_clearHand 2 none]
def wsX4_restrict : List Cond := .code yX4_restrict cX4_restrict 5 (some .int) :: ((wsX4_restrict_r1 ++ (wsX4_restrict_r2 ++ (wsX4_restrict_r3 ++ wsX4_restrict_r4))) ++ wsX40)
def wsX4_halves_r1 : List Cond := [Cond.methodLink RX4 213 yX4_begin, Cond.instanceMethod yX4_begin, Cond.selects RX4 yX4_begin yX4_begin, Cond.initialized RX4, Cond.code yX4_begin cX4_begin 1 none, Cond.fieldLink RX4 176 "DiagramBenchModel" "peak" "I", Cond.methodLink RX4 230 yX4_makeHalf, Cond.instanceMethod yX4_makeHalf, Cond.selects RX4 yX4_makeHalf yX4_makeHalf, Cond.code yX4_makeHalf cX4_makeHalf 10 none, Cond.fieldLink RX4 32 "DiagramBenchModel" "placeOf" "[I", Cond.fieldLink RX4 47 "DiagramBenchModel" "bits" "[J", Cond.fieldLink RX4 90 "DiagramBenchModel" "where" "[J", Cond.constantLong RX4 188 (-1), Cond.methodLink RX4 207 yX4_steps, Cond.instanceMethod yX4_steps, Cond.selects RX4 yX4_steps yX4_steps, Cond.code yX4_steps cX4_steps 2 (some .boolean), Cond.fieldLink RX4 149 "DiagramBenchModel" "using" "I", Cond.fieldLink RX4 102 "DiagramBenchModel" "room" "I", Cond.methodLink RX4 173 yX4_add, Cond.instanceMethod yX4_add, Cond.selects RX4 yX4_add yX4_add, Cond.code yX4_add cX4_add 5 none]
def wsX4_halves_r2 : List Cond := [Cond.fieldLink RX4 44 "DiagramBenchModel" "has" "[Z", Cond.fieldLink RX4 51 "DiagramBenchModel" "nodeMany" "[I", Cond.fieldLink RX4 160 "DiagramBenchModel" "marked" "I", Cond.fieldLink RX4 72 "DiagramBenchModel" "mark" "[I", Cond.fieldLink RX4 63 "DiagramBenchModel" "held" "[I", Cond.fieldLink RX4 54 "DiagramBenchModel" "nodeOf" "[I", Cond.methodLink RX4 163 yX4_lays, Cond.instanceMethod yX4_lays, Cond.selects RX4 yX4_lays yX4_lays, Cond.code yX4_lays cX4_lays 10 (some .boolean), Cond.fieldLink RX4 75 "DiagramBenchModel" "part" "[J", Cond.methodLink RX4 166 yX4_nodeFor, Cond.instanceMethod yX4_nodeFor, Cond.selects RX4 yX4_nodeFor yX4_nodeFor, Cond.code yX4_nodeFor cX4_nodeFor 5 (some .int), Cond.fieldLink RX4 69 "DiagramBenchModel" "head" "[I", Cond.fieldLink RX4 57 "DiagramBenchModel" "depth" "[I", Cond.fieldLink RX4 60 "DiagramBenchModel" "key" "[J", Cond.fieldLink RX4 66 "DiagramBenchModel" "next" "[I", Cond.fieldLink RX4 157 "DiagramBenchModel" "free" "I", Cond.methodLink RX4 154 yX4_bucket, Cond.instanceMethod yX4_bucket, Cond.selects RX4 yX4_bucket yX4_bucket, Cond.code yX4_bucket cX4_bucket 5 (some .int)]
def wsX4_halves_r3 : List Cond := [Cond.constantLong RX4 152 (1000003)]
def wsX4_halves : List Cond := .code yX4_halves cX4_halves 3 (some .boolean) :: ((wsX4_halves_r1 ++ (wsX4_halves_r2 ++ wsX4_halves_r3)) ++ wsX40)
def wsX4_quantify_r1 : List Cond := [Cond.methodLink RX4 226 yX4_noHalf, Cond.instanceMethod yX4_noHalf, Cond.selects RX4 yX4_noHalf yX4_noHalf, Cond.initialized RX4, Cond.code yX4_noHalf cX4_noHalf 4 (some .int), Cond.methodLink RX4 210 yX4_isHandle, Cond.static yX4_isHandle, Cond.code yX4_isHandle cX4_isHandle 1 (some .boolean), Cond.methodLink RX4 112 yX4_in, Cond.static yX4_in, Cond.code yX4_in cX4_in 3 (some .boolean), Cond.methodLink RX4 223 yX4_isFunction, Cond.instanceMethod yX4_isFunction, Cond.selects RX4 yX4_isFunction yX4_isFunction, Cond.code yX4_isFunction cX4_isFunction 2 (some .boolean), Cond.fieldLink RX4 44 "DiagramBenchModel" "has" "[Z", Cond.methodLink RX4 234 yX4_halves, Cond.instanceMethod yX4_halves, Cond.selects RX4 yX4_halves yX4_halves, Cond.code yX4_halves cX4_halves 3 (some .boolean), Cond.methodLink RX4 213 yX4_begin, Cond.instanceMethod yX4_begin, Cond.selects RX4 yX4_begin yX4_begin, Cond.code yX4_begin cX4_begin 1 none]
def wsX4_quantify_r2 : List Cond := [Cond.fieldLink RX4 176 "DiagramBenchModel" "peak" "I", Cond.methodLink RX4 230 yX4_makeHalf, Cond.instanceMethod yX4_makeHalf, Cond.selects RX4 yX4_makeHalf yX4_makeHalf, Cond.code yX4_makeHalf cX4_makeHalf 10 none, Cond.fieldLink RX4 32 "DiagramBenchModel" "placeOf" "[I", Cond.fieldLink RX4 47 "DiagramBenchModel" "bits" "[J", Cond.fieldLink RX4 90 "DiagramBenchModel" "where" "[J", Cond.constantLong RX4 188 (-1), Cond.methodLink RX4 207 yX4_steps, Cond.instanceMethod yX4_steps, Cond.selects RX4 yX4_steps yX4_steps, Cond.code yX4_steps cX4_steps 2 (some .boolean), Cond.fieldLink RX4 149 "DiagramBenchModel" "using" "I", Cond.fieldLink RX4 102 "DiagramBenchModel" "room" "I", Cond.methodLink RX4 173 yX4_add, Cond.instanceMethod yX4_add, Cond.selects RX4 yX4_add yX4_add, Cond.code yX4_add cX4_add 5 none, Cond.fieldLink RX4 51 "DiagramBenchModel" "nodeMany" "[I", Cond.fieldLink RX4 160 "DiagramBenchModel" "marked" "I", Cond.fieldLink RX4 72 "DiagramBenchModel" "mark" "[I", Cond.fieldLink RX4 63 "DiagramBenchModel" "held" "[I", Cond.fieldLink RX4 54 "DiagramBenchModel" "nodeOf" "[I"]
def wsX4_quantify_r3 : List Cond := [Cond.methodLink RX4 163 yX4_lays, Cond.instanceMethod yX4_lays, Cond.selects RX4 yX4_lays yX4_lays, Cond.code yX4_lays cX4_lays 10 (some .boolean), Cond.fieldLink RX4 75 "DiagramBenchModel" "part" "[J", Cond.methodLink RX4 166 yX4_nodeFor, Cond.instanceMethod yX4_nodeFor, Cond.selects RX4 yX4_nodeFor yX4_nodeFor, Cond.code yX4_nodeFor cX4_nodeFor 5 (some .int), Cond.fieldLink RX4 69 "DiagramBenchModel" "head" "[I", Cond.fieldLink RX4 57 "DiagramBenchModel" "depth" "[I", Cond.fieldLink RX4 60 "DiagramBenchModel" "key" "[J", Cond.fieldLink RX4 66 "DiagramBenchModel" "next" "[I", Cond.fieldLink RX4 157 "DiagramBenchModel" "free" "I", Cond.methodLink RX4 154 yX4_bucket, Cond.instanceMethod yX4_bucket, Cond.selects RX4 yX4_bucket yX4_bucket, Cond.code yX4_bucket cX4_bucket 5 (some .int), Cond.constantLong RX4 152 (1000003), Cond.methodLink RX4 204 yX4_makeOf, Cond.instanceMethod yX4_makeOf, Cond.selects RX4 yX4_makeOf yX4_makeOf, Cond.code yX4_makeOf cX4_makeOf 6 none, Cond.methodLink RX4 190 yX4_joined]
def wsX4_quantify_r4 : List Cond := [Cond.static yX4_joined, Cond.code yX4_joined cX4_joined 5 (some .long), Cond.methodLink RX4 219 yX4_gets, Cond.instanceMethod yX4_gets, Cond.selects RX4 yX4_gets yX4_gets, Cond.code yX4_gets cX4_gets 4 (some .int), Cond.methodLink RX4 182 yX4_take, Cond.instanceMethod yX4_take, Cond.selects RX4 yX4_take yX4_take, Cond.code yX4_take cX4_take 4 none, Cond.methodLink RX4 179 yX4_remove, Cond.instanceMethod yX4_remove, Cond.selects RX4 yX4_remove yX4_remove, Cond.code yX4_remove cX4_remove 4 none, Cond.methodLink RX4 169 yX4_unlink, Cond.instanceMethod yX4_unlink, Cond.selects RX4 yX4_unlink yX4_unlink, Cond.code yX4_unlink cX4_unlink 4 none, Cond.methodLink RX4 185 yX4_clearHand, Cond.instanceMethod yX4_clearHand, Cond.selects RX4 yX4_clearHand yX4_clearHand, Cond.code yX4_clearHand cX4_clearHand 2 none]
def wsX4_quantify : List Cond := .code yX4_quantify cX4_quantify 6 (some .int) :: ((wsX4_quantify_r1 ++ (wsX4_quantify_r2 ++ (wsX4_quantify_r3 ++ wsX4_quantify_r4))) ++ wsX40)
def wsX4_compose_r1 : List Cond := [Cond.methodLink RX4 226 yX4_noHalf, Cond.instanceMethod yX4_noHalf, Cond.selects RX4 yX4_noHalf yX4_noHalf, Cond.initialized RX4, Cond.code yX4_noHalf cX4_noHalf 4 (some .int), Cond.methodLink RX4 210 yX4_isHandle, Cond.static yX4_isHandle, Cond.code yX4_isHandle cX4_isHandle 1 (some .boolean), Cond.methodLink RX4 112 yX4_in, Cond.static yX4_in, Cond.code yX4_in cX4_in 3 (some .boolean), Cond.methodLink RX4 223 yX4_isFunction, Cond.instanceMethod yX4_isFunction, Cond.selects RX4 yX4_isFunction yX4_isFunction, Cond.code yX4_isFunction cX4_isFunction 2 (some .boolean), Cond.fieldLink RX4 44 "DiagramBenchModel" "has" "[Z", Cond.methodLink RX4 234 yX4_halves, Cond.instanceMethod yX4_halves, Cond.selects RX4 yX4_halves yX4_halves, Cond.code yX4_halves cX4_halves 3 (some .boolean), Cond.methodLink RX4 213 yX4_begin, Cond.instanceMethod yX4_begin, Cond.selects RX4 yX4_begin yX4_begin, Cond.code yX4_begin cX4_begin 1 none]
def wsX4_compose_r2 : List Cond := [Cond.fieldLink RX4 176 "DiagramBenchModel" "peak" "I", Cond.methodLink RX4 230 yX4_makeHalf, Cond.instanceMethod yX4_makeHalf, Cond.selects RX4 yX4_makeHalf yX4_makeHalf, Cond.code yX4_makeHalf cX4_makeHalf 10 none, Cond.fieldLink RX4 32 "DiagramBenchModel" "placeOf" "[I", Cond.fieldLink RX4 47 "DiagramBenchModel" "bits" "[J", Cond.fieldLink RX4 90 "DiagramBenchModel" "where" "[J", Cond.constantLong RX4 188 (-1), Cond.methodLink RX4 207 yX4_steps, Cond.instanceMethod yX4_steps, Cond.selects RX4 yX4_steps yX4_steps, Cond.code yX4_steps cX4_steps 2 (some .boolean), Cond.fieldLink RX4 149 "DiagramBenchModel" "using" "I", Cond.fieldLink RX4 102 "DiagramBenchModel" "room" "I", Cond.methodLink RX4 173 yX4_add, Cond.instanceMethod yX4_add, Cond.selects RX4 yX4_add yX4_add, Cond.code yX4_add cX4_add 5 none, Cond.fieldLink RX4 51 "DiagramBenchModel" "nodeMany" "[I", Cond.fieldLink RX4 160 "DiagramBenchModel" "marked" "I", Cond.fieldLink RX4 72 "DiagramBenchModel" "mark" "[I", Cond.fieldLink RX4 63 "DiagramBenchModel" "held" "[I", Cond.fieldLink RX4 54 "DiagramBenchModel" "nodeOf" "[I"]
def wsX4_compose_r3 : List Cond := [Cond.methodLink RX4 163 yX4_lays, Cond.instanceMethod yX4_lays, Cond.selects RX4 yX4_lays yX4_lays, Cond.code yX4_lays cX4_lays 10 (some .boolean), Cond.fieldLink RX4 75 "DiagramBenchModel" "part" "[J", Cond.methodLink RX4 166 yX4_nodeFor, Cond.instanceMethod yX4_nodeFor, Cond.selects RX4 yX4_nodeFor yX4_nodeFor, Cond.code yX4_nodeFor cX4_nodeFor 5 (some .int), Cond.fieldLink RX4 69 "DiagramBenchModel" "head" "[I", Cond.fieldLink RX4 57 "DiagramBenchModel" "depth" "[I", Cond.fieldLink RX4 60 "DiagramBenchModel" "key" "[J", Cond.fieldLink RX4 66 "DiagramBenchModel" "next" "[I", Cond.fieldLink RX4 157 "DiagramBenchModel" "free" "I", Cond.methodLink RX4 154 yX4_bucket, Cond.instanceMethod yX4_bucket, Cond.selects RX4 yX4_bucket yX4_bucket, Cond.code yX4_bucket cX4_bucket 5 (some .int), Cond.constantLong RX4 152 (1000003), Cond.methodLink RX4 200 yX4_makeChoice, Cond.instanceMethod yX4_makeChoice, Cond.selects RX4 yX4_makeChoice yX4_makeChoice, Cond.code yX4_makeChoice cX4_makeChoice 8 none, Cond.methodLink RX4 219 yX4_gets]
def wsX4_compose_r4 : List Cond := [Cond.instanceMethod yX4_gets, Cond.selects RX4 yX4_gets yX4_gets, Cond.code yX4_gets cX4_gets 4 (some .int), Cond.methodLink RX4 182 yX4_take, Cond.instanceMethod yX4_take, Cond.selects RX4 yX4_take yX4_take, Cond.code yX4_take cX4_take 4 none, Cond.methodLink RX4 179 yX4_remove, Cond.instanceMethod yX4_remove, Cond.selects RX4 yX4_remove yX4_remove, Cond.code yX4_remove cX4_remove 4 none, Cond.methodLink RX4 169 yX4_unlink, Cond.instanceMethod yX4_unlink, Cond.selects RX4 yX4_unlink yX4_unlink, Cond.code yX4_unlink cX4_unlink 4 none, Cond.methodLink RX4 185 yX4_clearHand, Cond.instanceMethod yX4_clearHand, Cond.selects RX4 yX4_clearHand yX4_clearHand, Cond.code yX4_clearHand cX4_clearHand 2 none]
def wsX4_compose : List Cond := .code yX4_compose cX4_compose 6 (some .int) :: ((wsX4_compose_r1 ++ (wsX4_compose_r2 ++ (wsX4_compose_r3 ++ wsX4_compose_r4))) ++ wsX40)
def wsX4_share_r1 : List Cond := [Cond.methodLink RX4 210 yX4_isHandle, Cond.static yX4_isHandle, Cond.initialized RX4, Cond.code yX4_isHandle cX4_isHandle 1 (some .boolean), Cond.methodLink RX4 112 yX4_in, Cond.static yX4_in, Cond.code yX4_in cX4_in 3 (some .boolean), Cond.methodLink RX4 223 yX4_isFunction, Cond.instanceMethod yX4_isFunction, Cond.selects RX4 yX4_isFunction yX4_isFunction, Cond.code yX4_isFunction cX4_isFunction 2 (some .boolean), Cond.fieldLink RX4 44 "DiagramBenchModel" "has" "[Z", Cond.methodLink RX4 182 yX4_take, Cond.instanceMethod yX4_take, Cond.selects RX4 yX4_take yX4_take, Cond.code yX4_take cX4_take 4 none, Cond.fieldLink RX4 47 "DiagramBenchModel" "bits" "[J", Cond.methodLink RX4 179 yX4_remove, Cond.instanceMethod yX4_remove, Cond.selects RX4 yX4_remove yX4_remove, Cond.code yX4_remove cX4_remove 4 none, Cond.fieldLink RX4 51 "DiagramBenchModel" "nodeMany" "[I", Cond.fieldLink RX4 54 "DiagramBenchModel" "nodeOf" "[I", Cond.fieldLink RX4 63 "DiagramBenchModel" "held" "[I"]
def wsX4_share_r2 : List Cond := [Cond.fieldLink RX4 149 "DiagramBenchModel" "using" "I", Cond.fieldLink RX4 72 "DiagramBenchModel" "mark" "[I", Cond.methodLink RX4 169 yX4_unlink, Cond.instanceMethod yX4_unlink, Cond.selects RX4 yX4_unlink yX4_unlink, Cond.code yX4_unlink cX4_unlink 4 none, Cond.fieldLink RX4 75 "DiagramBenchModel" "part" "[J", Cond.fieldLink RX4 60 "DiagramBenchModel" "key" "[J", Cond.fieldLink RX4 57 "DiagramBenchModel" "depth" "[I", Cond.fieldLink RX4 69 "DiagramBenchModel" "head" "[I", Cond.fieldLink RX4 66 "DiagramBenchModel" "next" "[I", Cond.fieldLink RX4 157 "DiagramBenchModel" "free" "I", Cond.methodLink RX4 154 yX4_bucket, Cond.instanceMethod yX4_bucket, Cond.selects RX4 yX4_bucket yX4_bucket, Cond.code yX4_bucket cX4_bucket 5 (some .int), Cond.constantLong RX4 152 (1000003), Cond.methodLink RX4 173 yX4_add, Cond.instanceMethod yX4_add, Cond.selects RX4 yX4_add yX4_add, Cond.code yX4_add cX4_add 5 none, Cond.fieldLink RX4 160 "DiagramBenchModel" "marked" "I", Cond.methodLink RX4 163 yX4_lays, Cond.instanceMethod yX4_lays]
def wsX4_share_r3 : List Cond := [Cond.selects RX4 yX4_lays yX4_lays, Cond.code yX4_lays cX4_lays 10 (some .boolean), Cond.methodLink RX4 166 yX4_nodeFor, Cond.instanceMethod yX4_nodeFor, Cond.selects RX4 yX4_nodeFor yX4_nodeFor, Cond.code yX4_nodeFor cX4_nodeFor 5 (some .int)]
def wsX4_share : List Cond := .code yX4_share cX4_share 3 (some .int) :: ((wsX4_share_r1 ++ (wsX4_share_r2 ++ wsX4_share_r3)) ++ wsX40)
def wsX4_drop_r1 : List Cond := [Cond.fieldLink RX4 44 "DiagramBenchModel" "has" "[Z", Cond.methodLink RX4 210 yX4_isHandle, Cond.static yX4_isHandle, Cond.initialized RX4, Cond.code yX4_isHandle cX4_isHandle 1 (some .boolean), Cond.methodLink RX4 112 yX4_in, Cond.static yX4_in, Cond.code yX4_in cX4_in 3 (some .boolean), Cond.methodLink RX4 179 yX4_remove, Cond.instanceMethod yX4_remove, Cond.selects RX4 yX4_remove yX4_remove, Cond.code yX4_remove cX4_remove 4 none, Cond.fieldLink RX4 51 "DiagramBenchModel" "nodeMany" "[I", Cond.fieldLink RX4 54 "DiagramBenchModel" "nodeOf" "[I", Cond.fieldLink RX4 63 "DiagramBenchModel" "held" "[I", Cond.fieldLink RX4 149 "DiagramBenchModel" "using" "I", Cond.fieldLink RX4 72 "DiagramBenchModel" "mark" "[I", Cond.methodLink RX4 169 yX4_unlink, Cond.instanceMethod yX4_unlink, Cond.selects RX4 yX4_unlink yX4_unlink, Cond.code yX4_unlink cX4_unlink 4 none, Cond.fieldLink RX4 75 "DiagramBenchModel" "part" "[J", Cond.fieldLink RX4 60 "DiagramBenchModel" "key" "[J", Cond.fieldLink RX4 57 "DiagramBenchModel" "depth" "[I"]
def wsX4_drop_r2 : List Cond := [Cond.fieldLink RX4 69 "DiagramBenchModel" "head" "[I", Cond.fieldLink RX4 66 "DiagramBenchModel" "next" "[I", Cond.fieldLink RX4 157 "DiagramBenchModel" "free" "I", Cond.methodLink RX4 154 yX4_bucket, Cond.instanceMethod yX4_bucket, Cond.selects RX4 yX4_bucket yX4_bucket, Cond.code yX4_bucket cX4_bucket 5 (some .int), Cond.constantLong RX4 152 (1000003)]
def wsX4_drop : List Cond := .code yX4_drop cX4_drop 3 (some .int) :: ((wsX4_drop_r1 ++ wsX4_drop_r2) ++ wsX40)
def wsX4_nodes : List Cond := .code yX4_nodes cX4_nodes 2 (some .int) :: ([.fieldLink RX4 51 "DiagramBenchModel" "nodeMany" "[I", .methodLink RX4 223 yX4_isFunction, .instanceMethod yX4_isFunction, .selects RX4 yX4_isFunction yX4_isFunction, .initialized RX4, .code yX4_isFunction cX4_isFunction 2 (some .boolean), .fieldLink RX4 44 "DiagramBenchModel" "has" "[Z", .methodLink RX4 210 yX4_isHandle, .static yX4_isHandle, .code yX4_isHandle cX4_isHandle 1 (some .boolean), .methodLink RX4 112 yX4_in, .static yX4_in, .code yX4_in cX4_in 3 (some .boolean)] ++ wsX40)
def wsX4_inUse : List Cond := .code yX4_inUse cX4_inUse 1 (some .int) :: ([.fieldLink RX4 149 "DiagramBenchModel" "using" "I"] ++ wsX40)
def wsX4_common : List Cond := .code yX4_common cX4_common 6 (some .int) :: ([.fieldLink RX4 51 "DiagramBenchModel" "nodeMany" "[I", .fieldLink RX4 54 "DiagramBenchModel" "nodeOf" "[I", .methodLink RX4 223 yX4_isFunction, .instanceMethod yX4_isFunction, .selects RX4 yX4_isFunction yX4_isFunction, .initialized RX4, .code yX4_isFunction cX4_isFunction 2 (some .boolean), .fieldLink RX4 44 "DiagramBenchModel" "has" "[Z", .methodLink RX4 210 yX4_isHandle, .static yX4_isHandle, .code yX4_isHandle cX4_isHandle 1 (some .boolean), .methodLink RX4 112 yX4_in, .static yX4_in, .code yX4_in cX4_in 3 (some .boolean)] ++ wsX40)
def wsX4_peak : List Cond := .code yX4_peak cX4_peak 1 (some .int) :: ([.fieldLink RX4 176 "DiagramBenchModel" "peak" "I"] ++ wsX40)
def wsX4_stands : List Cond := .code yX4_stands cX4_stands 4 (some .int) :: ([.fieldLink RX4 29 "DiagramBenchModel" "order" "[I"] ++ wsX40)
def wsX4_assignmentAt : List Cond := .code yX4_assignmentAt cX4_assignmentAt 4 (some .int) :: ([.fieldLink RX4 29 "DiagramBenchModel" "order" "[I"] ++ wsX40)
def wsX4_value : List Cond := .code yX4_value cX4_value 3 (some .int) :: ([.methodLink RX4 223 yX4_isFunction, .instanceMethod yX4_isFunction, .selects RX4 yX4_isFunction yX4_isFunction, .initialized RX4, .code yX4_isFunction cX4_isFunction 2 (some .boolean), .fieldLink RX4 44 "DiagramBenchModel" "has" "[Z", .methodLink RX4 210 yX4_isHandle, .static yX4_isHandle, .code yX4_isHandle cX4_isHandle 1 (some .boolean), .methodLink RX4 112 yX4_in, .static yX4_in, .code yX4_in cX4_in 3 (some .boolean), .methodLink RX4 237 yX4_stands, .instanceMethod yX4_stands, .selects RX4 yX4_stands yX4_stands, .code yX4_stands cX4_stands 4 (some .int), .fieldLink RX4 29 "DiagramBenchModel" "order" "[I", .methodLink RX4 240 yX4_bit, .instanceMethod yX4_bit, .selects RX4 yX4_bit yX4_bit, .code yX4_bit cX4_bit 3 (some .boolean), .fieldLink RX4 47 "DiagramBenchModel" "bits" "[J"] ++ wsX40)
def wsX4_same : List Cond := .code yX4_same cX4_same 5 (some .int) :: ([.fieldLink RX4 47 "DiagramBenchModel" "bits" "[J", .methodLink RX4 223 yX4_isFunction, .instanceMethod yX4_isFunction, .selects RX4 yX4_isFunction yX4_isFunction, .initialized RX4, .code yX4_isFunction cX4_isFunction 2 (some .boolean), .fieldLink RX4 44 "DiagramBenchModel" "has" "[Z", .methodLink RX4 210 yX4_isHandle, .static yX4_isHandle, .code yX4_isHandle cX4_isHandle 1 (some .boolean), .methodLink RX4 112 yX4_in, .static yX4_in, .code yX4_in cX4_in 3 (some .boolean)] ++ wsX40)
def wsX4_count : List Cond := .code yX4_count cX4_count 4 (some .int) :: ([.methodLink RX4 223 yX4_isFunction, .instanceMethod yX4_isFunction, .selects RX4 yX4_isFunction yX4_isFunction, .initialized RX4, .code yX4_isFunction cX4_isFunction 2 (some .boolean), .fieldLink RX4 44 "DiagramBenchModel" "has" "[Z", .methodLink RX4 210 yX4_isHandle, .static yX4_isHandle, .code yX4_isHandle cX4_isHandle 1 (some .boolean), .methodLink RX4 112 yX4_in, .static yX4_in, .code yX4_in cX4_in 3 (some .boolean), .methodLink RX4 240 yX4_bit, .instanceMethod yX4_bit, .selects RX4 yX4_bit yX4_bit, .code yX4_bit cX4_bit 3 (some .boolean), .fieldLink RX4 47 "DiagramBenchModel" "bits" "[J"] ++ wsX40)
def wsX4_hangs : List Cond := .code yX4_hangs cX4_hangs 6 (some .boolean) :: ([.methodLink RX4 240 yX4_bit, .instanceMethod yX4_bit, .selects RX4 yX4_bit yX4_bit, .initialized RX4, .code yX4_bit cX4_bit 3 (some .boolean), .fieldLink RX4 47 "DiagramBenchModel" "bits" "[J"] ++ wsX40)
def wsX4_support : List Cond := .code yX4_support cX4_support 4 (some .int) :: ([.fieldLink RX4 29 "DiagramBenchModel" "order" "[I", .methodLink RX4 223 yX4_isFunction, .instanceMethod yX4_isFunction, .selects RX4 yX4_isFunction yX4_isFunction, .initialized RX4, .code yX4_isFunction cX4_isFunction 2 (some .boolean), .fieldLink RX4 44 "DiagramBenchModel" "has" "[Z", .methodLink RX4 210 yX4_isHandle, .static yX4_isHandle, .code yX4_isHandle cX4_isHandle 1 (some .boolean), .methodLink RX4 112 yX4_in, .static yX4_in, .code yX4_in cX4_in 3 (some .boolean), .methodLink RX4 243 yX4_hangs, .instanceMethod yX4_hangs, .selects RX4 yX4_hangs yX4_hangs, .code yX4_hangs cX4_hangs 6 (some .boolean), .methodLink RX4 240 yX4_bit, .instanceMethod yX4_bit, .selects RX4 yX4_bit yX4_bit, .code yX4_bit cX4_bit 3 (some .boolean), .fieldLink RX4 47 "DiagramBenchModel" "bits" "[J"] ++ wsX40)
def wsX4_top : List Cond := .code yX4_top cX4_top 3 (some .int) :: ([.fieldLink RX4 29 "DiagramBenchModel" "order" "[I", .methodLink RX4 223 yX4_isFunction, .instanceMethod yX4_isFunction, .selects RX4 yX4_isFunction yX4_isFunction, .initialized RX4, .code yX4_isFunction cX4_isFunction 2 (some .boolean), .fieldLink RX4 44 "DiagramBenchModel" "has" "[Z", .methodLink RX4 210 yX4_isHandle, .static yX4_isHandle, .code yX4_isHandle cX4_isHandle 1 (some .boolean), .methodLink RX4 112 yX4_in, .static yX4_in, .code yX4_in cX4_in 3 (some .boolean), .methodLink RX4 243 yX4_hangs, .instanceMethod yX4_hangs, .selects RX4 yX4_hangs yX4_hangs, .code yX4_hangs cX4_hangs 6 (some .boolean), .methodLink RX4 240 yX4_bit, .instanceMethod yX4_bit, .selects RX4 yX4_bit yX4_bit, .code yX4_bit cX4_bit 3 (some .boolean), .fieldLink RX4 47 "DiagramBenchModel" "bits" "[J"] ++ wsX40)
def wsX4_level : List Cond := .code yX4_level cX4_level 5 (some .int) :: ([.fieldLink RX4 51 "DiagramBenchModel" "nodeMany" "[I", .fieldLink RX4 57 "DiagramBenchModel" "depth" "[I", .fieldLink RX4 54 "DiagramBenchModel" "nodeOf" "[I", .fieldLink RX4 32 "DiagramBenchModel" "placeOf" "[I", .methodLink RX4 223 yX4_isFunction, .instanceMethod yX4_isFunction, .selects RX4 yX4_isFunction yX4_isFunction, .initialized RX4, .code yX4_isFunction cX4_isFunction 2 (some .boolean), .fieldLink RX4 44 "DiagramBenchModel" "has" "[Z", .methodLink RX4 210 yX4_isHandle, .static yX4_isHandle, .code yX4_isHandle cX4_isHandle 1 (some .boolean), .methodLink RX4 112 yX4_in, .static yX4_in, .code yX4_in cX4_in 3 (some .boolean)] ++ wsX40)
def wsX4_leastOf : List Cond := .code yX4_leastOf cX4_leastOf 4 (some .int) :: ([.methodLink RX4 240 yX4_bit, .instanceMethod yX4_bit, .selects RX4 yX4_bit yX4_bit, .initialized RX4, .code yX4_bit cX4_bit 3 (some .boolean), .fieldLink RX4 47 "DiagramBenchModel" "bits" "[J"] ++ wsX40)
def wsX4_least_r1 : List Cond := [Cond.methodLink RX4 223 yX4_isFunction, Cond.instanceMethod yX4_isFunction, Cond.selects RX4 yX4_isFunction yX4_isFunction, Cond.initialized RX4, Cond.code yX4_isFunction cX4_isFunction 2 (some .boolean), Cond.fieldLink RX4 44 "DiagramBenchModel" "has" "[Z", Cond.methodLink RX4 210 yX4_isHandle, Cond.static yX4_isHandle, Cond.code yX4_isHandle cX4_isHandle 1 (some .boolean), Cond.methodLink RX4 112 yX4_in, Cond.static yX4_in, Cond.code yX4_in cX4_in 3 (some .boolean), Cond.methodLink RX4 246 yX4_leastOf, Cond.instanceMethod yX4_leastOf, Cond.selects RX4 yX4_leastOf yX4_leastOf, Cond.code yX4_leastOf cX4_leastOf 4 (some .int), Cond.methodLink RX4 240 yX4_bit, Cond.instanceMethod yX4_bit, Cond.selects RX4 yX4_bit yX4_bit, Cond.code yX4_bit cX4_bit 3 (some .boolean), Cond.fieldLink RX4 47 "DiagramBenchModel" "bits" "[J", Cond.methodLink RX4 250 yX4_assignmentAt, Cond.instanceMethod yX4_assignmentAt, Cond.selects RX4 yX4_assignmentAt yX4_assignmentAt]
def wsX4_least_r2 : List Cond := [Cond.code yX4_assignmentAt cX4_assignmentAt 4 (some .int), Cond.fieldLink RX4 29 "DiagramBenchModel" "order" "[I"]
def wsX4_least : List Cond := .code yX4_least cX4_least 4 (some .int) :: ((wsX4_least_r1 ++ wsX4_least_r2) ++ wsX40)
def wsX4_paths : List Cond := .code yX4_paths cX4_paths 5 (some .int) :: ([.fieldLink RX4 99 "DiagramBenchModel" "ways" "[I", .methodLink RX4 223 yX4_isFunction, .instanceMethod yX4_isFunction, .selects RX4 yX4_isFunction yX4_isFunction, .initialized RX4, .code yX4_isFunction cX4_isFunction 2 (some .boolean), .fieldLink RX4 44 "DiagramBenchModel" "has" "[Z", .methodLink RX4 210 yX4_isHandle, .static yX4_isHandle, .code yX4_isHandle cX4_isHandle 1 (some .boolean), .methodLink RX4 112 yX4_in, .static yX4_in, .code yX4_in cX4_in 3 (some .boolean), .methodLink RX4 240 yX4_bit, .instanceMethod yX4_bit, .selects RX4 yX4_bit yX4_bit, .code yX4_bit cX4_bit 3 (some .boolean), .fieldLink RX4 47 "DiagramBenchModel" "bits" "[J", .methodLink RX4 163 yX4_lays, .instanceMethod yX4_lays, .selects RX4 yX4_lays yX4_lays, .code yX4_lays cX4_lays 10 (some .boolean), .fieldLink RX4 75 "DiagramBenchModel" "part" "[J"] ++ wsX40)
def wsX4_equal_r1 : List Cond := [Cond.fieldLink RX4 13 "DiagramBenchModel" "outputs" "[I", Cond.fieldLink RX4 22 "DiagramBenchModel" "outputAt" "[I", Cond.fieldLink RX4 106 "DiagramBenchModel" "parted" "I", Cond.fieldLink RX4 109 "DiagramBenchModel" "parting" "I", Cond.methodLink RX4 116 yX4_isNet, Cond.static yX4_isNet, Cond.initialized RX4, Cond.code yX4_isNet cX4_isNet 1 (some .boolean), Cond.methodLink RX4 112 yX4_in, Cond.static yX4_in, Cond.code yX4_in cX4_in 3 (some .boolean), Cond.methodLink RX4 213 yX4_begin, Cond.instanceMethod yX4_begin, Cond.selects RX4 yX4_begin yX4_begin, Cond.code yX4_begin cX4_begin 1 none, Cond.fieldLink RX4 176 "DiagramBenchModel" "peak" "I", Cond.methodLink RX4 216 yX4_builds, Cond.instanceMethod yX4_builds, Cond.selects RX4 yX4_builds yX4_builds, Cond.code yX4_builds cX4_builds 7 (some .boolean), Cond.fieldLink RX4 93 "DiagramBenchModel" "needed" "[Z", Cond.fieldLink RX4 16 "DiagramBenchModel" "kind" "[I", Cond.fieldLink RX4 19 "DiagramBenchModel" "of" "[I", Cond.fieldLink RX4 96 "DiagramBenchModel" "lastNeed" "[I"]
def wsX4_equal_r2 : List Cond := [Cond.methodLink RX4 194 yX4_needs, Cond.instanceMethod yX4_needs, Cond.selects RX4 yX4_needs yX4_needs, Cond.code yX4_needs cX4_needs 7 none, Cond.methodLink RX4 120 yX4_wants, Cond.static yX4_wants, Cond.code yX4_wants cX4_wants 1 (some .int), Cond.methodLink RX4 197 yX4_makeVariable, Cond.instanceMethod yX4_makeVariable, Cond.selects RX4 yX4_makeVariable yX4_makeVariable, Cond.code yX4_makeVariable cX4_makeVariable 5 none, Cond.fieldLink RX4 32 "DiagramBenchModel" "placeOf" "[I", Cond.fieldLink RX4 47 "DiagramBenchModel" "bits" "[J", Cond.fieldLink RX4 90 "DiagramBenchModel" "where" "[J", Cond.constantLong RX4 188 (-1), Cond.methodLink RX4 200 yX4_makeChoice, Cond.instanceMethod yX4_makeChoice, Cond.selects RX4 yX4_makeChoice yX4_makeChoice, Cond.code yX4_makeChoice cX4_makeChoice 8 none, Cond.methodLink RX4 204 yX4_makeOf, Cond.instanceMethod yX4_makeOf, Cond.selects RX4 yX4_makeOf yX4_makeOf, Cond.code yX4_makeOf cX4_makeOf 6 none, Cond.methodLink RX4 190 yX4_joined]
def wsX4_equal_r3 : List Cond := [Cond.static yX4_joined, Cond.code yX4_joined cX4_joined 5 (some .long), Cond.methodLink RX4 207 yX4_steps, Cond.instanceMethod yX4_steps, Cond.selects RX4 yX4_steps yX4_steps, Cond.code yX4_steps cX4_steps 2 (some .boolean), Cond.fieldLink RX4 149 "DiagramBenchModel" "using" "I", Cond.fieldLink RX4 102 "DiagramBenchModel" "room" "I", Cond.methodLink RX4 173 yX4_add, Cond.instanceMethod yX4_add, Cond.selects RX4 yX4_add yX4_add, Cond.code yX4_add cX4_add 5 none, Cond.fieldLink RX4 44 "DiagramBenchModel" "has" "[Z", Cond.fieldLink RX4 51 "DiagramBenchModel" "nodeMany" "[I", Cond.fieldLink RX4 160 "DiagramBenchModel" "marked" "I", Cond.fieldLink RX4 72 "DiagramBenchModel" "mark" "[I", Cond.fieldLink RX4 63 "DiagramBenchModel" "held" "[I", Cond.fieldLink RX4 54 "DiagramBenchModel" "nodeOf" "[I", Cond.methodLink RX4 163 yX4_lays, Cond.instanceMethod yX4_lays, Cond.selects RX4 yX4_lays yX4_lays, Cond.code yX4_lays cX4_lays 10 (some .boolean), Cond.fieldLink RX4 75 "DiagramBenchModel" "part" "[J", Cond.methodLink RX4 166 yX4_nodeFor]
def wsX4_equal_r4 : List Cond := [Cond.instanceMethod yX4_nodeFor, Cond.selects RX4 yX4_nodeFor yX4_nodeFor, Cond.code yX4_nodeFor cX4_nodeFor 5 (some .int), Cond.fieldLink RX4 69 "DiagramBenchModel" "head" "[I", Cond.fieldLink RX4 57 "DiagramBenchModel" "depth" "[I", Cond.fieldLink RX4 60 "DiagramBenchModel" "key" "[J", Cond.fieldLink RX4 66 "DiagramBenchModel" "next" "[I", Cond.fieldLink RX4 157 "DiagramBenchModel" "free" "I", Cond.methodLink RX4 154 yX4_bucket, Cond.instanceMethod yX4_bucket, Cond.selects RX4 yX4_bucket yX4_bucket, Cond.code yX4_bucket cX4_bucket 5 (some .int), Cond.constantLong RX4 152 (1000003), Cond.methodLink RX4 179 yX4_remove, Cond.instanceMethod yX4_remove, Cond.selects RX4 yX4_remove yX4_remove, Cond.code yX4_remove cX4_remove 4 none, Cond.methodLink RX4 169 yX4_unlink, Cond.instanceMethod yX4_unlink, Cond.selects RX4 yX4_unlink yX4_unlink, Cond.code yX4_unlink cX4_unlink 4 none, Cond.methodLink RX4 182 yX4_take, Cond.instanceMethod yX4_take, Cond.selects RX4 yX4_take yX4_take]
def wsX4_equal_r5 : List Cond := [Cond.code yX4_take cX4_take 4 none, Cond.methodLink RX4 246 yX4_leastOf, Cond.instanceMethod yX4_leastOf, Cond.selects RX4 yX4_leastOf yX4_leastOf, Cond.code yX4_leastOf cX4_leastOf 4 (some .int), Cond.methodLink RX4 240 yX4_bit, Cond.instanceMethod yX4_bit, Cond.selects RX4 yX4_bit yX4_bit, Cond.code yX4_bit cX4_bit 3 (some .boolean), Cond.methodLink RX4 185 yX4_clearHand, Cond.instanceMethod yX4_clearHand, Cond.selects RX4 yX4_clearHand yX4_clearHand, Cond.code yX4_clearHand cX4_clearHand 2 none, Cond.methodLink RX4 250 yX4_assignmentAt, Cond.instanceMethod yX4_assignmentAt, Cond.selects RX4 yX4_assignmentAt yX4_assignmentAt, Cond.code yX4_assignmentAt cX4_assignmentAt 4 (some .int), Cond.fieldLink RX4 29 "DiagramBenchModel" "order" "[I"]
def wsX4_equal : List Cond := .code yX4_equal cX4_equal 8 (some .int) :: ((wsX4_equal_r1 ++ (wsX4_equal_r2 ++ (wsX4_equal_r3 ++ (wsX4_equal_r4 ++ wsX4_equal_r5)))) ++ wsX40)
def wsX4_parting : List Cond := .code yX4_parting cX4_parting 2 (some .int) :: ([.fieldLink RX4 106 "DiagramBenchModel" "parted" "I", .fieldLink RX4 109 "DiagramBenchModel" "parting" "I"] ++ wsX40)
def wsX4_told : List Cond := .code yX4_told cX4_told 4 (some .int) :: ([.fieldLink RX4 7 "DiagramBenchModel" "gates" "[I", .fieldLink RX4 13 "DiagramBenchModel" "outputs" "[I", .fieldLink RX4 44 "DiagramBenchModel" "has" "[Z", .fieldLink RX4 102 "DiagramBenchModel" "room" "I", .methodLink RX4 112 yX4_in, .static yX4_in, .initialized RX4, .code yX4_in cX4_in 3 (some .boolean)] ++ wsX40)
def wsJ9_max_7cf53 : List Cond := .code yJ9_max_7cf53 cJ9_max_7cf53 2 (some .int) :: ([])
def wsJ9_min_7cf53 : List Cond := .code yJ9_min_7cf53 cJ9_min_7cf53 2 (some .int) :: ([])
def wsL_law_r1 : List Cond := [Cond.classLink RL 7 RX3, Cond.instantiable RX3 11, Cond.initialized RX3, Cond.classLink RL 10 RX4, Cond.instantiable RX4 35, Cond.initialized RX4, Cond.methodLink RL 9 yX3_init, Cond.instanceMethod yX3_init, Cond.code yX3_init cX3_init 2 none, Cond.methodLink RX3 3 objectInit, Cond.instanceMethod objectInit, Cond.code objectInit ⟨#[0xb1]⟩ 1 none, Cond.classLink RX3 9 RX0, Cond.fieldLink RX3 11 "DiagramBench" "nets" "[LDiagramBench$Net;", Cond.classLink RX3 15 RX1, Cond.instantiable RX1 3, Cond.initialized RX1, Cond.fieldLink RX3 18 "DiagramBench" "places" "LDiagramBench$Order;", Cond.classLink RX3 22 RX2, Cond.instantiable RX2 9, Cond.initialized RX2, Cond.fieldLink RX3 25 "DiagramBench" "pool" "LDiagramBench$Pool;", Cond.arrayClass .int, Cond.fieldLink RX3 29 "DiagramBench" "held" "[I"]
def wsL_law_r2 : List Cond := [Cond.fieldLink RX3 33 "DiagramBench" "ofGate" "[I", Cond.fieldLink RX3 36 "DiagramBench" "lastNeed" "[I", Cond.fieldLink RX3 39 "DiagramBench" "kept" "[I", Cond.fieldLink RX3 42 "DiagramBench" "keptCount" "I", Cond.fieldLink RX3 46 "DiagramBench" "mostInUse" "I", Cond.fieldLink RX3 49 "DiagramBench" "partedOutput" "I", Cond.fieldLink RX3 52 "DiagramBench" "partedAssignment" "I", Cond.instantiable RX0 6, Cond.initialized RX0, Cond.methodLink RX3 17 yX1_init, Cond.instanceMethod yX1_init, Cond.code yX1_init cX1_init 2 none, Cond.methodLink RX1 3 objectInit, Cond.fieldLink RX1 9 "DiagramBench$Order" "variables" "[I", Cond.fieldLink RX1 15 "DiagramBench$Order" "placesOf" "[I", Cond.fieldLink RX1 18 "DiagramBench$Order" "met" "I", Cond.methodLink RX3 24 yX2_init, Cond.instanceMethod yX2_init, Cond.code yX2_init cX2_init 1 none, Cond.methodLink RX2 3 objectInit, Cond.fieldLink RX2 11 "DiagramBench$Pool" "places" "[I", Cond.fieldLink RX2 15 "DiagramBench$Pool" "lows" "[I", Cond.fieldLink RX2 18 "DiagramBench$Pool" "highs" "[I", Cond.fieldLink RX2 21 "DiagramBench$Pool" "marks" "[I"]
def wsL_law_r3 : List Cond := [Cond.fieldLink RX2 24 "DiagramBench$Pool" "next" "[I", Cond.fieldLink RX2 27 "DiagramBench$Pool" "rows" "[I", Cond.fieldLink RX2 30 "DiagramBench$Pool" "firstFree" "I", Cond.fieldLink RX2 34 "DiagramBench$Pool" "used" "I", Cond.fieldLink RX2 37 "DiagramBench$Pool" "most" "I", Cond.methodLink RX2 40 yX2_sweep, Cond.instanceMethod yX2_sweep, Cond.selects RX2 yX2_sweep yX2_sweep, Cond.code yX2_sweep cX2_sweep 2 none, Cond.methodLink RX2 43 yJ7_fill_53178, Cond.static yJ7_fill_53178, Cond.initialized RJ7, Cond.code yJ7_fill_53178 cJ7_fill_53178 4 none, Cond.methodLink RX2 64 yX2_enter, Cond.instanceMethod yX2_enter, Cond.selects RX2 yX2_enter yX2_enter, Cond.code yX2_enter cX2_enter 3 none, Cond.methodLink RX3 55 yX0_init, Cond.instanceMethod yX0_init, Cond.code yX0_init cX0_init 1 none, Cond.methodLink RX0 3 objectInit, Cond.fieldLink RX0 9 "DiagramBench$Net" "kinds" "[I", Cond.fieldLink RX0 15 "DiagramBench$Net" "operands" "[I", Cond.fieldLink RX0 18 "DiagramBench$Net" "outputGates" "[I"]
def wsL_law_r4 : List Cond := [Cond.fieldLink RX0 21 "DiagramBench$Net" "ofGates" "[I", Cond.fieldLink RX0 24 "DiagramBench$Net" "gates" "I", Cond.fieldLink RX0 28 "DiagramBench$Net" "outputs" "I", Cond.methodLink RX3 56 yJ7_fill_53178, Cond.methodLink RL 12 yX4_init, Cond.instanceMethod yX4_init, Cond.code yX4_init cX4_init 2 none, Cond.methodLink RX4 1 objectInit, Cond.fieldLink RX4 7 "DiagramBenchModel" "gates" "[I", Cond.fieldLink RX4 13 "DiagramBenchModel" "outputs" "[I", Cond.fieldLink RX4 16 "DiagramBenchModel" "kind" "[I", Cond.fieldLink RX4 19 "DiagramBenchModel" "of" "[I", Cond.fieldLink RX4 22 "DiagramBenchModel" "outputAt" "[I", Cond.arrayClass .boolean, Cond.fieldLink RX4 25 "DiagramBenchModel" "on" "[Z", Cond.fieldLink RX4 29 "DiagramBenchModel" "order" "[I", Cond.fieldLink RX4 32 "DiagramBenchModel" "placeOf" "[I", Cond.fieldLink RX4 35 "DiagramBenchModel" "seen" "[Z", Cond.fieldLink RX4 38 "DiagramBenchModel" "pile" "[I", Cond.fieldLink RX4 41 "DiagramBenchModel" "child" "[I", Cond.fieldLink RX4 44 "DiagramBenchModel" "has" "[Z", Cond.arrayClass .long, Cond.fieldLink RX4 47 "DiagramBenchModel" "bits" "[J", Cond.fieldLink RX4 51 "DiagramBenchModel" "nodeMany" "[I"]
def wsL_law_r5 : List Cond := [Cond.fieldLink RX4 54 "DiagramBenchModel" "nodeOf" "[I", Cond.fieldLink RX4 57 "DiagramBenchModel" "depth" "[I", Cond.fieldLink RX4 60 "DiagramBenchModel" "key" "[J", Cond.fieldLink RX4 63 "DiagramBenchModel" "held" "[I", Cond.fieldLink RX4 66 "DiagramBenchModel" "next" "[I", Cond.fieldLink RX4 69 "DiagramBenchModel" "head" "[I", Cond.fieldLink RX4 72 "DiagramBenchModel" "mark" "[I", Cond.fieldLink RX4 75 "DiagramBenchModel" "part" "[J", Cond.constantLong RX4 78 (-4294967296), Cond.constantLong RX4 80 (-281470681808896), Cond.constantLong RX4 82 (-71777214294589696), Cond.constantLong RX4 84 (-1085102592571150096), Cond.constantLong RX4 86 (-3689348814741910324), Cond.constantLong RX4 88 (-6148914691236517206), Cond.fieldLink RX4 90 "DiagramBenchModel" "where" "[J", Cond.fieldLink RX4 93 "DiagramBenchModel" "needed" "[Z", Cond.fieldLink RX4 96 "DiagramBenchModel" "lastNeed" "[I", Cond.fieldLink RX4 99 "DiagramBenchModel" "ways" "[I", Cond.fieldLink RX4 102 "DiagramBenchModel" "room" "I", Cond.fieldLink RX4 106 "DiagramBenchModel" "parted" "I", Cond.fieldLink RX4 109 "DiagramBenchModel" "parting" "I", Cond.methodLink RL 13 yX3_gate, Cond.instanceMethod yX3_gate, Cond.selects RX3 yX3_gate yX3_gate]
def wsL_law_r6 : List Cond := [Cond.code yX3_gate cX3_gate 6 (some .int), Cond.methodLink RX3 62 yX3_isNet, Cond.static yX3_isNet, Cond.code yX3_isNet cX3_isNet 1 (some .boolean), Cond.methodLink RX3 66 yX0_hasOperands, Cond.instanceMethod yX0_hasOperands, Cond.selects RX0 yX0_hasOperands yX0_hasOperands, Cond.code yX0_hasOperands cX0_hasOperands 6 (some .boolean), Cond.methodLink RX0 34 yX0_hasGate, Cond.instanceMethod yX0_hasGate, Cond.selects RX0 yX0_hasGate yX0_hasGate, Cond.code yX0_hasGate cX0_hasGate 2 (some .boolean), Cond.methodLink RX3 70 yX3_isVariable, Cond.static yX3_isVariable, Cond.code yX3_isVariable cX3_isVariable 1 (some .boolean), Cond.methodLink RX3 73 yX0_addGate, Cond.instanceMethod yX0_addGate, Cond.selects RX0 yX0_addGate yX0_addGate, Cond.code yX0_addGate cX0_addGate 5 (some .int), Cond.methodLink RL 17 yX4_gate, Cond.instanceMethod yX4_gate, Cond.selects RX4 yX4_gate yX4_gate, Cond.code yX4_gate cX4_gate 8 (some .int), Cond.methodLink RX4 116 yX4_isNet]
def wsL_law_r7 : List Cond := [Cond.static yX4_isNet, Cond.code yX4_isNet cX4_isNet 1 (some .boolean), Cond.methodLink RX4 112 yX4_in, Cond.static yX4_in, Cond.code yX4_in cX4_in 3 (some .boolean), Cond.methodLink RX4 120 yX4_wants, Cond.static yX4_wants, Cond.code yX4_wants cX4_wants 1 (some .int), Cond.methodLink RX4 124 yX4_isGate, Cond.instanceMethod yX4_isGate, Cond.selects RX4 yX4_isGate yX4_isGate, Cond.code yX4_isGate cX4_isGate 3 (some .boolean), Cond.methodLink RL 18 yX3_output, Cond.instanceMethod yX3_output, Cond.selects RX3 yX3_output yX3_output, Cond.code yX3_output cX3_output 3 (some .int), Cond.methodLink RX3 77 yX0_hasGate, Cond.methodLink RX3 80 yX0_addOutput, Cond.instanceMethod yX0_addOutput, Cond.selects RX0 yX0_addOutput yX0_addOutput, Cond.code yX0_addOutput cX0_addOutput 2 (some .int), Cond.methodLink RL 22 yX4_output, Cond.instanceMethod yX4_output, Cond.selects RX4 yX4_output yX4_output]
def wsL_law_r8 : List Cond := [Cond.code yX4_output cX4_output 3 (some .int), Cond.methodLink RL 23 yX3_clear, Cond.instanceMethod yX3_clear, Cond.selects RX3 yX3_clear yX3_clear, Cond.code yX3_clear cX3_clear 2 (some .int), Cond.methodLink RX3 84 yX0_empty, Cond.instanceMethod yX0_empty, Cond.selects RX0 yX0_empty yX0_empty, Cond.code yX0_empty cX0_empty 2 (some .int), Cond.methodLink RL 27 yX4_clear, Cond.instanceMethod yX4_clear, Cond.selects RX4 yX4_clear yX4_clear, Cond.code yX4_clear cX4_clear 3 (some .int), Cond.methodLink RL 28 yX3_gives, Cond.instanceMethod yX3_gives, Cond.selects RX3 yX3_gives yX3_gives, Cond.code yX3_gives cX3_gives 4 (some .int), Cond.methodLink RX3 88 yX0_hasOutput, Cond.instanceMethod yX0_hasOutput, Cond.selects RX0 yX0_hasOutput yX0_hasOutput, Cond.code yX0_hasOutput cX0_hasOutput 2 (some .boolean), Cond.methodLink RX3 91 yX3_isAssignment, Cond.static yX3_isAssignment, Cond.code yX3_isAssignment cX3_isAssignment 1 (some .boolean)]
def wsL_law_r9 : List Cond := [Cond.methodLink RX3 94 yX0_outputValue, Cond.instanceMethod yX0_outputValue, Cond.selects RX0 yX0_outputValue yX0_outputValue, Cond.code yX0_outputValue cX0_outputValue 5 (some .int), Cond.methodLink RX0 38 yX0_gateValue, Cond.instanceMethod yX0_gateValue, Cond.selects RX0 yX0_gateValue yX0_gateValue, Cond.code yX0_gateValue cX0_gateValue 6 (some .int), Cond.methodLink RX0 42 yX0_operand, Cond.instanceMethod yX0_operand, Cond.selects RX0 yX0_operand yX0_operand, Cond.code yX0_operand cX0_operand 3 (some .int), Cond.methodLink RL 32 yX4_gives, Cond.instanceMethod yX4_gives, Cond.selects RX4 yX4_gives yX4_gives, Cond.code yX4_gives cX4_gives 10 (some .int), Cond.methodLink RX4 128 yX4_isOutput, Cond.instanceMethod yX4_isOutput, Cond.selects RX4 yX4_isOutput yX4_isOutput, Cond.code yX4_isOutput cX4_isOutput 3 (some .boolean), Cond.methodLink RX4 131 yX4_combined, Cond.static yX4_combined, Cond.code yX4_combined cX4_combined 3 (some .boolean), Cond.methodLink RL 33 yX3_order]
def wsL_law_r10 : List Cond := [Cond.instanceMethod yX3_order, Cond.selects RX3 yX3_order yX3_order, Cond.code yX3_order cX3_order 2 (some .int), Cond.methodLink RX3 98 yX3_heldCount, Cond.instanceMethod yX3_heldCount, Cond.selects RX3 yX3_heldCount yX3_heldCount, Cond.code yX3_heldCount cX3_heldCount 3 (some .int), Cond.methodLink RX3 101 yX1_forget, Cond.instanceMethod yX1_forget, Cond.selects RX1 yX1_forget yX1_forget, Cond.code yX1_forget cX1_forget 1 none, Cond.methodLink RX1 22 yJ7_fill_53178, Cond.methodLink RX3 104 yX0_meetVariables, Cond.instanceMethod yX0_meetVariables, Cond.selects RX0 yX0_meetVariables yX0_meetVariables, Cond.code yX0_meetVariables cX0_meetVariables 3 none, Cond.methodLink RX0 48 yJ7_fill_53178, Cond.methodLink RX0 58 yX0_goInto, Cond.instanceMethod yX0_goInto, Cond.selects RX0 yX0_goInto yX0_goInto, Cond.code yX0_goInto cX0_goInto 5 none, Cond.methodLink RX0 62 yX1_meet, Cond.instanceMethod yX1_meet, Cond.selects RX1 yX1_meet yX1_meet]
def wsL_law_r11 : List Cond := [Cond.code yX1_meet cX1_meet 2 none, Cond.methodLink RX1 28 yX1_put, Cond.instanceMethod yX1_put, Cond.selects RX1 yX1_put yX1_put, Cond.code yX1_put cX1_put 3 none, Cond.methodLink RX3 108 yX1_meetOthers, Cond.instanceMethod yX1_meetOthers, Cond.selects RX1 yX1_meetOthers yX1_meetOthers, Cond.code yX1_meetOthers cX1_meetOthers 3 (some .int), Cond.methodLink RX1 32 yX1_meet, Cond.methodLink RL 36 yX4_order, Cond.instanceMethod yX4_order, Cond.selects RX4 yX4_order yX4_order, Cond.code yX4_order cX4_order 5 (some .int), Cond.fieldLink RX4 138 "DiagramBenchModel" "found" "I", Cond.fieldLink RX4 135 "DiagramBenchModel" "piled" "I", Cond.methodLink RX4 141 yX4_isEmpty, Cond.instanceMethod yX4_isEmpty, Cond.selects RX4 yX4_isEmpty yX4_isEmpty, Cond.code yX4_isEmpty cX4_isEmpty 3 (some .boolean), Cond.methodLink RX4 145 yX4_go, Cond.instanceMethod yX4_go, Cond.selects RX4 yX4_go yX4_go, Cond.code yX4_go cX4_go 4 none]
def wsL_law_r12 : List Cond := [Cond.methodLink RL 37 yX3_move, Cond.instanceMethod yX3_move, Cond.selects RX3 yX3_move yX3_move, Cond.code yX3_move cX3_move 3 (some .int), Cond.methodLink RX3 111 yX1_moveTo, Cond.instanceMethod yX1_moveTo, Cond.selects RX1 yX1_moveTo yX1_moveTo, Cond.code yX1_moveTo cX1_moveTo 5 (some .int), Cond.methodLink RL 40 yX4_move, Cond.instanceMethod yX4_move, Cond.selects RX4 yX4_move yX4_move, Cond.code yX4_move cX4_move 6 (some .int), Cond.methodLink RL 41 yX3_at, Cond.instanceMethod yX3_at, Cond.selects RX3 yX3_at yX3_at, Cond.code yX3_at cX3_at 2 (some .int), Cond.methodLink RX3 114 yX1_variableAt, Cond.instanceMethod yX1_variableAt, Cond.selects RX1 yX1_variableAt yX1_variableAt, Cond.code yX1_variableAt cX1_variableAt 2 (some .int), Cond.methodLink RL 44 yX4_at, Cond.instanceMethod yX4_at, Cond.selects RX4 yX4_at yX4_at, Cond.code yX4_at cX4_at 2 (some .int)]
def wsL_law_r13 : List Cond := [Cond.methodLink RL 45 yX3_room, Cond.instanceMethod yX3_room, Cond.selects RX3 yX3_room yX3_room, Cond.code yX3_room cX3_room 2 (some .int), Cond.methodLink RX3 117 yX3_inUse, Cond.instanceMethod yX3_inUse, Cond.selects RX3 yX3_inUse yX3_inUse, Cond.code yX3_inUse cX3_inUse 1 (some .int), Cond.methodLink RX3 155 yX3_collect, Cond.instanceMethod yX3_collect, Cond.selects RX3 yX3_collect yX3_collect, Cond.code yX3_collect cX3_collect 2 none, Cond.methodLink RX3 217 yX2_unmark, Cond.instanceMethod yX2_unmark, Cond.selects RX2 yX2_unmark yX2_unmark, Cond.code yX2_unmark cX2_unmark 1 none, Cond.methodLink RX3 220 yX2_mark, Cond.instanceMethod yX2_mark, Cond.selects RX2 yX2_mark yX2_mark, Cond.code yX2_mark cX2_mark 2 none, Cond.methodLink RX2 49 yX2_markWith, Cond.instanceMethod yX2_markWith, Cond.selects RX2 yX2_markWith yX2_markWith, Cond.code yX2_markWith cX2_markWith 4 none]
def wsL_law_r14 : List Cond := [Cond.methodLink RX3 224 yX2_sweep, Cond.methodLink RX3 158 yX2_usedCount, Cond.instanceMethod yX2_usedCount, Cond.selects RX2 yX2_usedCount yX2_usedCount, Cond.code yX2_usedCount cX2_usedCount 1 (some .int), Cond.methodLink RX3 120 yX2_changeLimit, Cond.instanceMethod yX2_changeLimit, Cond.selects RX2 yX2_changeLimit yX2_changeLimit, Cond.code yX2_changeLimit cX2_changeLimit 3 (some .int), Cond.methodLink RL 48 yX4_room, Cond.instanceMethod yX4_room, Cond.selects RX4 yX4_room yX4_room, Cond.code yX4_room cX4_room 3 (some .int), Cond.fieldLink RX4 149 "DiagramBenchModel" "using" "I", Cond.methodLink RL 49 yX3_build, Cond.instanceMethod yX3_build, Cond.selects RX3 yX3_build yX3_build, Cond.code yX3_build cX3_build 4 (some .int), Cond.methodLink RX3 123 yX3_isHandle, Cond.static yX3_isHandle, Cond.code yX3_isHandle cX3_isHandle 1 (some .boolean), Cond.methodLink RX3 126 yX3_beginSteps, Cond.instanceMethod yX3_beginSteps, Cond.selects RX3 yX3_beginSteps yX3_beginSteps]
def wsL_law_r15 : List Cond := [Cond.code yX3_beginSteps cX3_beginSteps 1 none, Cond.methodLink RX3 129 yX3_building, Cond.instanceMethod yX3_building, Cond.selects RX3 yX3_building yX3_building, Cond.code yX3_building cX3_building 7 (some .int), Cond.methodLink RX3 227 yX0_findNeeds, Cond.instanceMethod yX0_findNeeds, Cond.selects RX0 yX0_findNeeds yX0_findNeeds, Cond.code yX0_findNeeds cX0_findNeeds 5 (some .int), Cond.methodLink RX0 54 yX0_noteNeedsOf, Cond.instanceMethod yX0_noteNeedsOf, Cond.selects RX0 yX0_noteNeedsOf yX0_noteNeedsOf, Cond.code yX0_noteNeedsOf cX0_noteNeedsOf 5 none, Cond.methodLink RX3 231 yX0_kindOf, Cond.instanceMethod yX0_kindOf, Cond.selects RX0 yX0_kindOf yX0_kindOf, Cond.code yX0_kindOf cX0_kindOf 2 (some .int), Cond.methodLink RX3 234 yX0_operand, Cond.methodLink RX3 136 yX3_variableStep, Cond.instanceMethod yX3_variableStep, Cond.selects RX3 yX3_variableStep yX3_variableStep, Cond.code yX3_variableStep cX3_variableStep 2 (some .int), Cond.methodLink RX3 174 yX1_placeOf, Cond.instanceMethod yX1_placeOf]
def wsL_law_r16 : List Cond := [Cond.selects RX1 yX1_placeOf yX1_placeOf, Cond.code yX1_placeOf cX1_placeOf 2 (some .int), Cond.methodLink RX3 206 yX2_makeVariable, Cond.instanceMethod yX2_makeVariable, Cond.selects RX2 yX2_makeVariable yX2_makeVariable, Cond.code yX2_makeVariable cX2_makeVariable 2 (some .int), Cond.methodLink RX2 67 yX2_nodeFor, Cond.instanceMethod yX2_nodeFor, Cond.selects RX2 yX2_nodeFor yX2_nodeFor, Cond.code yX2_nodeFor cX2_nodeFor 6 (some .int), Cond.methodLink RX3 203 yX3_measured, Cond.instanceMethod yX3_measured, Cond.selects RX3 yX3_measured yX3_measured, Cond.code yX3_measured cX3_measured 3 (some .int), Cond.methodLink RX3 212 Lib.Math.max.name, Cond.static Lib.Math.max.name, Cond.initialized "java/lang/Math", Cond.code Lib.Math.max.name Lib.Math.max.code 2 (some .int), Cond.methodLink RX3 194 yX2_limit, Cond.instanceMethod yX2_limit, Cond.selects RX2 yX2_limit yX2_limit, Cond.code yX2_limit cX2_limit 1 (some .int), Cond.methodLink RX3 237 yX3_madeFor, Cond.instanceMethod yX3_madeFor]
def wsL_law_r17 : List Cond := [Cond.selects RX3 yX3_madeFor yX3_madeFor, Cond.code yX3_madeFor cX3_madeFor 4 (some .int), Cond.fieldLink RX3 245 "DiagramBench" "OPERANDS" "[I", Cond.methodLink RX3 142 yX3_kindStep, Cond.instanceMethod yX3_kindStep, Cond.selects RX3 yX3_kindStep yX3_kindStep, Cond.code yX3_kindStep cX3_kindStep 5 (some .int), Cond.fieldLink RX3 197 "DiagramBench" "TABLES" "[I", Cond.methodLink RX3 200 yX2_make, Cond.instanceMethod yX2_make, Cond.selects RX2 yX2_make yX2_make, Cond.code yX2_make cX2_make 5 (some .int), Cond.methodLink RX2 71 yX2_makeFrom, Cond.instanceMethod yX2_makeFrom, Cond.selects RX2 yX2_makeFrom yX2_makeFrom, Cond.code yX2_makeFrom cX2_makeFrom 10 (some .int), Cond.methodLink RX2 79 Lib.Math.min.name, Cond.static Lib.Math.min.name, Cond.code Lib.Math.min.name Lib.Math.min.code 2 (some .int), Cond.methodLink RX2 75 yX2_knowing, Cond.static yX2_knowing, Cond.code yX2_knowing cX2_knowing 5 (some .int), Cond.methodLink RX2 85 yX2_lowAt, Cond.instanceMethod yX2_lowAt]
def wsL_law_r18 : List Cond := [Cond.selects RX2 yX2_lowAt yX2_lowAt, Cond.code yX2_lowAt cX2_lowAt 3 (some .int), Cond.methodLink RX2 88 yX2_highAt, Cond.instanceMethod yX2_highAt, Cond.selects RX2 yX2_highAt yX2_highAt, Cond.code yX2_highAt cX2_highAt 3 (some .int), Cond.methodLink RX3 241 yX3_letGoBehind, Cond.instanceMethod yX3_letGoBehind, Cond.selects RX3 yX3_letGoBehind yX3_letGoBehind, Cond.code yX3_letGoBehind cX3_letGoBehind 6 none, Cond.methodLink RX3 149 yX3_keep, Cond.instanceMethod yX3_keep, Cond.selects RX3 yX3_keep yX3_keep, Cond.code yX3_keep cX3_keep 2 (some .int), Cond.methodLink RX3 133 yX3_give, Cond.instanceMethod yX3_give, Cond.selects RX3 yX3_give yX3_give, Cond.code yX3_give cX3_give 3 (some .int), Cond.methodLink RX3 188 yX3_endSteps, Cond.instanceMethod yX3_endSteps, Cond.selects RX3 yX3_endSteps yX3_endSteps, Cond.code yX3_endSteps cX3_endSteps 1 none, Cond.methodLink RX3 152 yX2_nodeCount, Cond.instanceMethod yX2_nodeCount]
def wsL_law_r19 : List Cond := [Cond.selects RX2 yX2_nodeCount yX2_nodeCount, Cond.code yX2_nodeCount cX2_nodeCount 2 (some .int), Cond.methodLink RX2 53 yX2_unmark, Cond.methodLink RX2 56 yX2_mark, Cond.methodLink RX2 60 yX2_markedWith, Cond.instanceMethod yX2_markedWith, Cond.selects RX2 yX2_markedWith yX2_markedWith, Cond.code yX2_markedWith cX2_markedWith 4 (some .int), Cond.methodLink RL 52 yX4_build, Cond.instanceMethod yX4_build, Cond.selects RX4 yX4_build yX4_build, Cond.code yX4_build cX4_build 5 (some .int), Cond.methodLink RX4 210 yX4_isHandle, Cond.static yX4_isHandle, Cond.code yX4_isHandle cX4_isHandle 1 (some .boolean), Cond.methodLink RX4 213 yX4_begin, Cond.instanceMethod yX4_begin, Cond.selects RX4 yX4_begin yX4_begin, Cond.code yX4_begin cX4_begin 1 none, Cond.fieldLink RX4 176 "DiagramBenchModel" "peak" "I", Cond.methodLink RX4 216 yX4_builds, Cond.instanceMethod yX4_builds, Cond.selects RX4 yX4_builds yX4_builds, Cond.code yX4_builds cX4_builds 7 (some .boolean)]
def wsL_law_r20 : List Cond := [Cond.methodLink RX4 194 yX4_needs, Cond.instanceMethod yX4_needs, Cond.selects RX4 yX4_needs yX4_needs, Cond.code yX4_needs cX4_needs 7 none, Cond.methodLink RX4 197 yX4_makeVariable, Cond.instanceMethod yX4_makeVariable, Cond.selects RX4 yX4_makeVariable yX4_makeVariable, Cond.code yX4_makeVariable cX4_makeVariable 5 none, Cond.constantLong RX4 188 (-1), Cond.methodLink RX4 200 yX4_makeChoice, Cond.instanceMethod yX4_makeChoice, Cond.selects RX4 yX4_makeChoice yX4_makeChoice, Cond.code yX4_makeChoice cX4_makeChoice 8 none, Cond.methodLink RX4 204 yX4_makeOf, Cond.instanceMethod yX4_makeOf, Cond.selects RX4 yX4_makeOf yX4_makeOf, Cond.code yX4_makeOf cX4_makeOf 6 none, Cond.methodLink RX4 190 yX4_joined, Cond.static yX4_joined, Cond.code yX4_joined cX4_joined 5 (some .long), Cond.methodLink RX4 207 yX4_steps, Cond.instanceMethod yX4_steps, Cond.selects RX4 yX4_steps yX4_steps, Cond.code yX4_steps cX4_steps 2 (some .boolean)]
def wsL_law_r21 : List Cond := [Cond.methodLink RX4 173 yX4_add, Cond.instanceMethod yX4_add, Cond.selects RX4 yX4_add yX4_add, Cond.code yX4_add cX4_add 5 none, Cond.fieldLink RX4 160 "DiagramBenchModel" "marked" "I", Cond.methodLink RX4 163 yX4_lays, Cond.instanceMethod yX4_lays, Cond.selects RX4 yX4_lays yX4_lays, Cond.code yX4_lays cX4_lays 10 (some .boolean), Cond.methodLink RX4 166 yX4_nodeFor, Cond.instanceMethod yX4_nodeFor, Cond.selects RX4 yX4_nodeFor yX4_nodeFor, Cond.code yX4_nodeFor cX4_nodeFor 5 (some .int), Cond.fieldLink RX4 157 "DiagramBenchModel" "free" "I", Cond.methodLink RX4 154 yX4_bucket, Cond.instanceMethod yX4_bucket, Cond.selects RX4 yX4_bucket yX4_bucket, Cond.code yX4_bucket cX4_bucket 5 (some .int), Cond.constantLong RX4 152 (1000003), Cond.methodLink RX4 179 yX4_remove, Cond.instanceMethod yX4_remove, Cond.selects RX4 yX4_remove yX4_remove, Cond.code yX4_remove cX4_remove 4 none, Cond.methodLink RX4 169 yX4_unlink]
def wsL_law_r22 : List Cond := [Cond.instanceMethod yX4_unlink, Cond.selects RX4 yX4_unlink yX4_unlink, Cond.code yX4_unlink cX4_unlink 4 none, Cond.methodLink RX4 219 yX4_gets, Cond.instanceMethod yX4_gets, Cond.selects RX4 yX4_gets yX4_gets, Cond.code yX4_gets cX4_gets 4 (some .int), Cond.methodLink RX4 182 yX4_take, Cond.instanceMethod yX4_take, Cond.selects RX4 yX4_take yX4_take, Cond.code yX4_take cX4_take 4 none, Cond.methodLink RX4 185 yX4_clearHand, Cond.instanceMethod yX4_clearHand, Cond.selects RX4 yX4_clearHand yX4_clearHand, Cond.code yX4_clearHand cX4_clearHand 2 none, Cond.methodLink RL 53 yX3_variable, Cond.instanceMethod yX3_variable, Cond.selects RX3 yX3_variable yX3_variable, Cond.code yX3_variable cX3_variable 3 (some .int), Cond.methodLink RL 56 yX4_variable, Cond.instanceMethod yX4_variable, Cond.selects RX4 yX4_variable yX4_variable, Cond.code yX4_variable cX4_variable 3 (some .int), Cond.methodLink RL 57 yX3_combine]
def wsL_law_r23 : List Cond := [Cond.instanceMethod yX3_combine, Cond.selects RX3 yX3_combine yX3_combine, Cond.code yX3_combine cX3_combine 7 (some .int), Cond.methodLink RX3 139 yX3_hasFunction, Cond.instanceMethod yX3_hasFunction, Cond.selects RX3 yX3_hasFunction yX3_hasFunction, Cond.code yX3_hasFunction cX3_hasFunction 2 (some .boolean), Cond.methodLink RL 61 yX4_combine, Cond.instanceMethod yX4_combine, Cond.selects RX4 yX4_combine yX4_combine, Cond.code yX4_combine cX4_combine 5 (some .int), Cond.methodLink RX4 223 yX4_isFunction, Cond.instanceMethod yX4_isFunction, Cond.selects RX4 yX4_isFunction yX4_isFunction, Cond.code yX4_isFunction cX4_isFunction 2 (some .boolean), Cond.methodLink RL 62 yX3_choose, Cond.instanceMethod yX3_choose, Cond.selects RX3 yX3_choose yX3_choose, Cond.code yX3_choose cX3_choose 5 (some .int), Cond.methodLink RL 65 yX4_choose, Cond.instanceMethod yX4_choose, Cond.selects RX4 yX4_choose yX4_choose, Cond.code yX4_choose cX4_choose 5 (some .int), Cond.methodLink RL 66 yX3_restrict]
def wsL_law_r24 : List Cond := [Cond.instanceMethod yX3_restrict, Cond.selects RX3 yX3_restrict yX3_restrict, Cond.code yX3_restrict cX3_restrict 5 (some .int), Cond.methodLink RX3 145 yX3_fixStep, Cond.instanceMethod yX3_fixStep, Cond.selects RX3 yX3_fixStep yX3_fixStep, Cond.code yX3_fixStep cX3_fixStep 4 (some .int), Cond.methodLink RX3 209 yX2_makeFixed, Cond.instanceMethod yX2_makeFixed, Cond.selects RX2 yX2_makeFixed yX2_makeFixed, Cond.code yX2_makeFixed cX2_makeFixed 4 (some .int), Cond.methodLink RX2 91 yX2_fixFrom, Cond.instanceMethod yX2_fixFrom, Cond.selects RX2 yX2_fixFrom yX2_fixFrom, Cond.code yX2_fixFrom cX2_fixFrom 7 (some .int), Cond.methodLink RL 70 yX4_restrict, Cond.instanceMethod yX4_restrict, Cond.selects RX4 yX4_restrict yX4_restrict, Cond.code yX4_restrict cX4_restrict 5 (some .int), Cond.methodLink RX4 226 yX4_noHalf, Cond.instanceMethod yX4_noHalf, Cond.selects RX4 yX4_noHalf yX4_noHalf, Cond.code yX4_noHalf cX4_noHalf 4 (some .int), Cond.methodLink RX4 230 yX4_makeHalf]
def wsL_law_r25 : List Cond := [Cond.instanceMethod yX4_makeHalf, Cond.selects RX4 yX4_makeHalf yX4_makeHalf, Cond.code yX4_makeHalf cX4_makeHalf 10 none, Cond.methodLink RL 71 yX3_quantify, Cond.instanceMethod yX3_quantify, Cond.selects RX3 yX3_quantify yX3_quantify, Cond.code yX3_quantify cX3_quantify 7 (some .int), Cond.methodLink RL 74 yX4_quantify, Cond.instanceMethod yX4_quantify, Cond.selects RX4 yX4_quantify yX4_quantify, Cond.code yX4_quantify cX4_quantify 6 (some .int), Cond.methodLink RX4 234 yX4_halves, Cond.instanceMethod yX4_halves, Cond.selects RX4 yX4_halves yX4_halves, Cond.code yX4_halves cX4_halves 3 (some .boolean), Cond.methodLink RL 75 yX3_compose, Cond.instanceMethod yX3_compose, Cond.selects RX3 yX3_compose yX3_compose, Cond.code yX3_compose cX3_compose 7 (some .int), Cond.methodLink RL 78 yX4_compose, Cond.instanceMethod yX4_compose, Cond.selects RX4 yX4_compose yX4_compose, Cond.code yX4_compose cX4_compose 6 (some .int), Cond.methodLink RL 79 yX3_share]
def wsL_law_r26 : List Cond := [Cond.instanceMethod yX3_share, Cond.selects RX3 yX3_share yX3_share, Cond.code yX3_share cX3_share 3 (some .int), Cond.methodLink RL 82 yX4_share, Cond.instanceMethod yX4_share, Cond.selects RX4 yX4_share yX4_share, Cond.code yX4_share cX4_share 3 (some .int), Cond.methodLink RL 83 yX3_drop, Cond.instanceMethod yX3_drop, Cond.selects RX3 yX3_drop yX3_drop, Cond.code yX3_drop cX3_drop 3 (some .int), Cond.methodLink RL 86 yX4_drop, Cond.instanceMethod yX4_drop, Cond.selects RX4 yX4_drop yX4_drop, Cond.code yX4_drop cX4_drop 3 (some .int), Cond.methodLink RL 87 yX3_nodes, Cond.instanceMethod yX3_nodes, Cond.selects RX3 yX3_nodes yX3_nodes, Cond.code yX3_nodes cX3_nodes 2 (some .int), Cond.methodLink RL 90 yX4_nodes, Cond.instanceMethod yX4_nodes, Cond.selects RX4 yX4_nodes yX4_nodes, Cond.code yX4_nodes cX4_nodes 2 (some .int), Cond.methodLink RL 91 yX3_inUse]
def wsL_law_r27 : List Cond := [Cond.methodLink RL 95 yX4_inUse, Cond.instanceMethod yX4_inUse, Cond.selects RX4 yX4_inUse yX4_inUse, Cond.code yX4_inUse cX4_inUse 1 (some .int), Cond.methodLink RL 96 yX3_common, Cond.instanceMethod yX3_common, Cond.selects RX3 yX3_common yX3_common, Cond.code yX3_common cX3_common 3 (some .int), Cond.methodLink RX3 161 yX2_commonCount, Cond.instanceMethod yX2_commonCount, Cond.selects RX2 yX2_commonCount yX2_commonCount, Cond.code yX2_commonCount cX2_commonCount 3 (some .int), Cond.methodLink RL 99 yX4_common, Cond.instanceMethod yX4_common, Cond.selects RX4 yX4_common yX4_common, Cond.code yX4_common cX4_common 6 (some .int), Cond.methodLink RL 100 yX3_peak, Cond.instanceMethod yX3_peak, Cond.selects RX3 yX3_peak yX3_peak, Cond.code yX3_peak cX3_peak 1 (some .int), Cond.methodLink RL 103 yX4_peak, Cond.instanceMethod yX4_peak, Cond.selects RX4 yX4_peak yX4_peak, Cond.code yX4_peak cX4_peak 1 (some .int)]
def wsL_law_r28 : List Cond := [Cond.methodLink RL 104 yX3_value, Cond.instanceMethod yX3_value, Cond.selects RX3 yX3_value yX3_value, Cond.code yX3_value cX3_value 3 (some .int), Cond.methodLink RX3 164 yX2_valueFor, Cond.instanceMethod yX2_valueFor, Cond.selects RX2 yX2_valueFor yX2_valueFor, Cond.code yX2_valueFor cX2_valueFor 7 (some .int), Cond.methodLink RX2 95 yX1_variableAt, Cond.methodLink RL 107 yX4_value, Cond.instanceMethod yX4_value, Cond.selects RX4 yX4_value yX4_value, Cond.code yX4_value cX4_value 3 (some .int), Cond.methodLink RX4 237 yX4_stands, Cond.instanceMethod yX4_stands, Cond.selects RX4 yX4_stands yX4_stands, Cond.code yX4_stands cX4_stands 4 (some .int), Cond.methodLink RX4 240 yX4_bit, Cond.instanceMethod yX4_bit, Cond.selects RX4 yX4_bit yX4_bit, Cond.code yX4_bit cX4_bit 3 (some .boolean), Cond.methodLink RL 108 yX3_same, Cond.instanceMethod yX3_same, Cond.selects RX3 yX3_same yX3_same]
def wsL_law_r29 : List Cond := [Cond.code yX3_same cX3_same 3 (some .int), Cond.methodLink RL 111 yX4_same, Cond.instanceMethod yX4_same, Cond.selects RX4 yX4_same yX4_same, Cond.code yX4_same cX4_same 5 (some .int), Cond.methodLink RL 112 yX3_count, Cond.instanceMethod yX3_count, Cond.selects RX3 yX3_count yX3_count, Cond.code yX3_count cX3_count 4 (some .int), Cond.methodLink RL 115 yX4_count, Cond.instanceMethod yX4_count, Cond.selects RX4 yX4_count yX4_count, Cond.code yX4_count cX4_count 4 (some .int), Cond.methodLink RL 116 yX3_support, Cond.instanceMethod yX3_support, Cond.selects RX3 yX3_support yX3_support, Cond.code yX3_support cX3_support 4 (some .int), Cond.methodLink RX3 168 yX2_nodeCountAt, Cond.instanceMethod yX2_nodeCountAt, Cond.selects RX2 yX2_nodeCountAt yX2_nodeCountAt, Cond.code yX2_nodeCountAt cX2_nodeCountAt 5 (some .int), Cond.methodLink RL 119 yX4_support, Cond.instanceMethod yX4_support, Cond.selects RX4 yX4_support yX4_support]
def wsL_law_r30 : List Cond := [Cond.code yX4_support cX4_support 4 (some .int), Cond.methodLink RX4 243 yX4_hangs, Cond.instanceMethod yX4_hangs, Cond.selects RX4 yX4_hangs yX4_hangs, Cond.code yX4_hangs cX4_hangs 6 (some .boolean), Cond.methodLink RL 120 yX3_top, Cond.instanceMethod yX3_top, Cond.selects RX3 yX3_top yX3_top, Cond.code yX3_top cX3_top 3 (some .int), Cond.methodLink RX3 171 yX2_placeOf, Cond.instanceMethod yX2_placeOf, Cond.selects RX2 yX2_placeOf yX2_placeOf, Cond.code yX2_placeOf cX2_placeOf 2 (some .int), Cond.methodLink RL 123 yX4_top, Cond.instanceMethod yX4_top, Cond.selects RX4 yX4_top yX4_top, Cond.code yX4_top cX4_top 3 (some .int), Cond.methodLink RL 124 yX3_level, Cond.instanceMethod yX3_level, Cond.selects RX3 yX3_level yX3_level, Cond.code yX3_level cX3_level 3 (some .int), Cond.methodLink RL 127 yX4_level, Cond.instanceMethod yX4_level, Cond.selects RX4 yX4_level yX4_level]
def wsL_law_r31 : List Cond := [Cond.code yX4_level cX4_level 5 (some .int), Cond.methodLink RL 128 yX3_least, Cond.instanceMethod yX3_least, Cond.selects RX3 yX3_least yX3_least, Cond.code yX3_least cX3_least 3 (some .int), Cond.methodLink RX3 175 yX2_leastFor, Cond.instanceMethod yX2_leastFor, Cond.selects RX2 yX2_leastFor yX2_leastFor, Cond.code yX2_leastFor cX2_leastFor 7 (some .int), Cond.methodLink RL 132 yX4_least, Cond.instanceMethod yX4_least, Cond.selects RX4 yX4_least yX4_least, Cond.code yX4_least cX4_least 4 (some .int), Cond.methodLink RX4 246 yX4_leastOf, Cond.instanceMethod yX4_leastOf, Cond.selects RX4 yX4_leastOf yX4_leastOf, Cond.code yX4_leastOf cX4_leastOf 4 (some .int), Cond.methodLink RX4 250 yX4_assignmentAt, Cond.instanceMethod yX4_assignmentAt, Cond.selects RX4 yX4_assignmentAt yX4_assignmentAt, Cond.code yX4_assignmentAt cX4_assignmentAt 4 (some .int), Cond.methodLink RL 133 yX3_paths, Cond.instanceMethod yX3_paths, Cond.selects RX3 yX3_paths yX3_paths]
def wsL_law_r32 : List Cond := [Cond.code yX3_paths cX3_paths 3 (some .int), Cond.methodLink RX3 178 yX2_pathCount, Cond.instanceMethod yX2_pathCount, Cond.selects RX2 yX2_pathCount yX2_pathCount, Cond.code yX2_pathCount cX2_pathCount 3 (some .int), Cond.methodLink RX2 100 yX2_pathsFrom, Cond.instanceMethod yX2_pathsFrom, Cond.selects RX2 yX2_pathsFrom yX2_pathsFrom, Cond.code yX2_pathsFrom cX2_pathsFrom 4 (some .int), Cond.methodLink RL 136 yX4_paths, Cond.instanceMethod yX4_paths, Cond.selects RX4 yX4_paths yX4_paths, Cond.code yX4_paths cX4_paths 5 (some .int), Cond.methodLink RL 137 yX3_equal, Cond.instanceMethod yX3_equal, Cond.selects RX3 yX3_equal yX3_equal, Cond.code yX3_equal cX3_equal 8 (some .int), Cond.methodLink RX3 181 yX0_outputCount, Cond.instanceMethod yX0_outputCount, Cond.selects RX0 yX0_outputCount yX0_outputCount, Cond.code yX0_outputCount cX0_outputCount 1 (some .int), Cond.methodLink RX3 184 yX3_notePart, Cond.instanceMethod yX3_notePart, Cond.selects RX3 yX3_notePart yX3_notePart]
def wsL_law_r33 : List Cond := [Cond.code yX3_notePart cX3_notePart 3 none, Cond.methodLink RL 140 yX4_equal, Cond.instanceMethod yX4_equal, Cond.selects RX4 yX4_equal yX4_equal, Cond.code yX4_equal cX4_equal 8 (some .int), Cond.methodLink RL 141 yX3_parting, Cond.instanceMethod yX3_parting, Cond.selects RX3 yX3_parting yX3_parting, Cond.code yX3_parting cX3_parting 2 (some .int), Cond.methodLink RL 144 yX4_parting, Cond.instanceMethod yX4_parting, Cond.selects RX4 yX4_parting yX4_parting, Cond.code yX4_parting cX4_parting 2 (some .int), Cond.methodLink RL 145 yX3_told, Cond.instanceMethod yX3_told, Cond.selects RX3 yX3_told yX3_told, Cond.code yX3_told cX3_told 2 (some .int), Cond.methodLink RX3 191 yX0_gateCount, Cond.instanceMethod yX0_gateCount, Cond.selects RX0 yX0_gateCount yX0_gateCount, Cond.code yX0_gateCount cX0_gateCount 1 (some .int), Cond.methodLink RL 148 yX4_told, Cond.instanceMethod yX4_told, Cond.selects RX4 yX4_told yX4_told]
def wsL_law_r34 : List Cond := [Cond.code yX4_told cX4_told 4 (some .int)]
def wsL_law : List Cond := (wsL_law_r1 ++ (wsL_law_r2 ++ (wsL_law_r3 ++ (wsL_law_r4 ++ (wsL_law_r5 ++ (wsL_law_r6 ++ (wsL_law_r7 ++ (wsL_law_r8 ++ (wsL_law_r9 ++ (wsL_law_r10 ++ (wsL_law_r11 ++ (wsL_law_r12 ++ (wsL_law_r13 ++ (wsL_law_r14 ++ (wsL_law_r15 ++ (wsL_law_r16 ++ (wsL_law_r17 ++ (wsL_law_r18 ++ (wsL_law_r19 ++ (wsL_law_r20 ++ (wsL_law_r21 ++ (wsL_law_r22 ++ (wsL_law_r23 ++ (wsL_law_r24 ++ (wsL_law_r25 ++ (wsL_law_r26 ++ (wsL_law_r27 ++ (wsL_law_r28 ++ (wsL_law_r29 ++ (wsL_law_r30 ++ (wsL_law_r31 ++ (wsL_law_r32 ++ (wsL_law_r33 ++ wsL_law_r34))))))))))))))))))))))))))))))))) ++ wsX30 ++ wsX40 ++ wsX10 ++ wsX20 ++ wsX00 ++ ([] : List Cond)
end
section
theorem inlX0 : ∀ w ∈ wsX00, w ∈ wsL_law := fun _ h => List.mem_append_left _ (List.mem_append_right _ h)
theorem inlX1 : ∀ w ∈ wsX10, w ∈ wsL_law := fun _ h => List.mem_append_left _ (List.mem_append_left _ (List.mem_append_left _ (List.mem_append_right _ h)))
theorem inlX2 : ∀ w ∈ wsX20, w ∈ wsL_law := fun _ h => List.mem_append_left _ (List.mem_append_left _ (List.mem_append_right _ h))
theorem inlX3 : ∀ w ∈ wsX30, w ∈ wsL_law := fun _ h => List.mem_append_left _ (List.mem_append_left _ (List.mem_append_left _ (List.mem_append_left _ (List.mem_append_left _ (List.mem_append_right _ h)))))
theorem inlX4 : ∀ w ∈ wsX40, w ∈ wsL_law := fun _ h => List.mem_append_left _ (List.mem_append_left _ (List.mem_append_left _ (List.mem_append_left _ (List.mem_append_right _ h))))
/-- the words that every method of ours is walked under -/
def tl_W : List Cond := wsL_law
theorem tl_inW {w : Cond} (h : w ∈ wsL_law) : w ∈ tl_W := h

/-! ===== T-LAYER: a light walk. G: launch, class numbers and slots, array classes, base, first heap, read-only int arrays; a state: shapes, ints, longs, references, heap size ===== -/
abbrev tl_cl : List vw_C := [(RX0, TX0, 6), (RX1, TX1, 3), (RX2, TX2, 9), (RX3, TX3, 11), (RX4, TX4, 35)]
def tl_ty : Nat → Nat → FieldType := fun ci => match ci with
  | 0 => tyX0
  | 1 => tyX1
  | 2 => tyX2
  | 3 => tyX3
  | _ => tyX4
abbrev tl_G : Type := Launch × va_G × (Nat → ClassId) × Nat × Heap × (Nat → Nat × Nat × (Nat → Int32))
abbrev tl_S : Type := (Nat → Nat × Nat) × (Nat → Nat → Int32) × (Nat → Nat → Int64) × (Nat → Nat → Option Nat) × Nat
abbrev tl_M : Type := String × ByteArray × Nat × Option FieldType × String
abbrev gL (G : tl_G) : Launch := G.1
abbrev gD (G : tl_G) : va_G := G.2.1
abbrev gA (G : tl_G) : Nat → ClassId := G.2.2.1
abbrev gB (G : tl_G) : Nat := G.2.2.2.1
abbrev gH (G : tl_G) : Heap := G.2.2.2.2.1
abbrev gR (G : tl_G) : Nat → Nat × Nat × (Nat → Int32) := G.2.2.2.2.2
abbrev sS (σ : tl_S) : Nat → Nat × Nat := σ.1
abbrev sM (σ : tl_S) : Nat → Nat → Int32 := σ.2.1
abbrev sJ (σ : tl_S) : Nat → Nat → Int64 := σ.2.2.1
abbrev sP (σ : tl_S) : Nat → Nat → Option Nat := σ.2.2.2.1
abbrev sZ (σ : tl_S) : Nat := σ.2.2.2.2
def up2 {α : Type} (M : Nat → Nat → α) (a j : Nat) (v : α) : Nat → Nat → α := fun a' j' => if a' = a then (if j' = j then v else M a' j') else M a' j'
theorem up2_o {α : Type} {M : Nat → Nat → α} {a j a' : Nat} {v : α} (h : a' ≠ a) : up2 M a j v a' = M a' := by
  funext j'
  simp [up2, h]
theorem up2_s {α : Type} {M : Nat → Nat → α} {a j : Nat} {v : α} : up2 M a j v a j = v := by simp [up2]
theorem up2_n {α : Type} {M : Nat → Nat → α} {a j j' : Nat} {v : α} (h : j' ≠ j) : up2 M a j v a j' = M a j' := by simp [up2, h]
def up1 {α : Type} (f : Nat → α) (a : Nat) (v : α) : Nat → α := fun a' => if a' = a then v else f a'
theorem up1_o {α : Type} {f : Nat → α} {a a' : Nat} {v : α} (h : a' ≠ a) : up1 f a v a' = f a' := by simp [up1, h]
theorem up1_s {α : Type} {f : Nat → α} {a : Nat} {v : α} : up1 f a v a = v := by simp [up1]
def tl_fv (ty : FieldType) (x : Int32) (y : Int64) (r : Option Nat) : Value := match ty with
  | .int => .int x
  | .boolean => .int x
  | .long => .long y
  | .object _ => va_rf r
  | .array _ => va_rf r
  | _ => .null
/-- a cell by its shape: 1 an object of a class, 2 int[], 3 boolean[], 4 long[], 5 and on an array of references -/
def tl_at (G : tl_G) (t n a : Nat) (x : Nat → Int32) (y : Nat → Int64) (r : Nat → Option Nat) (H : Heap) : Prop := match t with
  | 0 => True
  | 1 => ∃ q, tl_cl[n]? = some q ∧ t_OB a ((gD G).1 n) q.2.2 ((gD G).2 n) H (fun k => tl_fv (tl_ty n k) (x k) (y k) (r k))
  | 2 => H[a]? = some (arrV (gA G 0) n (fun j => .int (x j)))
  | 3 => H[a]? = some (arrV (gA G 1) n (fun j => .int (x j)))
  | 4 => H[a]? = some (arrV (gA G 2) n (fun j => .long (y j)))
  | _ => H[a]? = some (arrV (gA G 3) n (fun j => va_rf (r j)))
def tl_cell (G : tl_G) (σ : tl_S) (a : Nat) (H : Heap) : Prop := tl_at G (sS σ a).1 (sS σ a).2 a (sM σ a) (sJ σ a) (sP σ a) H
def tl_H (G : tl_G) (σ : tl_S) (H : Heap) : Prop := H.size = sZ σ ∧ gB G ≤ sZ σ ∧ (∀ q, q < gB G → H[q]? = (gH G)[q]?) ∧ (∀ a, a < gB G → (sS σ a).1 = 0) ∧ ∀ a, tl_cell G σ a H
def tl_tys (G : tl_G) : List (ClassId × FieldType) := [(gA G 0, .int), (gA G 1, .boolean), (gA G 2, .long), (gA G 3, .object RX0)]
def tl_sf : Nat → String × String × String := fun i => match i with
  | 1 => ("DiagramBench", "OPERANDS", "[I")
  | _ => ("DiagramBench", "TABLES", "[I")
def tl_si (i : Nat) : Nat := if i = 1 then 31 else 45
def tl_N (s : State) : Prop := va_Nw (.fieldLinkNest RX0 31 "DiagramBench" "OPERANDS" "[I" "DiagramBench") s ∧ va_Nw (.fieldLinkNest RX0 45 "DiagramBench" "TABLES" "[I" "DiagramBench") s
def tl_K (G : tl_G) (s : State) : Prop := va_K (gD G) tl_cl (tl_tys G) s ∧ (∀ i, i < 3 → va_X (gR G i).1 (gR G i).2.1 (gR G i).2.2 s (gH G) ∧ (gR G i).1 < gB G) ∧ (∀ i, 1 ≤ i → i < 3 → va_Z (tl_sf i).1 (tl_sf i).2.1 (tl_sf i).2.2 (.ref (gR G i).1) (fun q => gB G ≤ q) s (gH G)) ∧ va_AO RX0 s ∧ tl_N s
theorem tl_K_moved {G : tl_G} {u U : State} (hW : u.WarmedH U.vm) (h : tl_K G u) : tl_K G U := ⟨va_K.moved hW.alike h.1, fun i hi => ⟨va_X.moved hW.alike (h.2.1 i hi).1, (h.2.1 i hi).2⟩, fun i h1 h2 => va_Z.moved hW.alike (h.2.2.1 i h1 h2), va_AO.moved hW.alike h.2.2.2.1, va_Nw.warmF hW h.2.2.2.2.1, va_Nw.warmF hW h.2.2.2.2.2⟩
theorem tl_K_same {G : tl_G} {u U : State} (hvm : u.vm = U.vm) (h : tl_K G u) : tl_K G U := by
  have ha : u.vm.Alike U.vm := by rw [hvm]; exact Vm.Alike.refl U.vm
  exact ⟨va_K.moved ha h.1, fun i hi => ⟨va_X.moved ha (h.2.1 i hi).1, (h.2.1 i hi).2⟩, fun i h1 h2 => va_Z.moved ha (h.2.2.1 i h1 h2), va_AO.moved ha h.2.2.2.1, va_Nw.same rfl hvm h.2.2.2.2.1, va_Nw.same rfl hvm h.2.2.2.2.2⟩
theorem tl_at_lt {G : tl_G} {t n a : Nat} {x : Nat → Int32} {y : Nat → Int64} {r : Nat → Option Nat} {H : Heap} (h : tl_at G t n a x y r H) (ht : t ≠ 0) : a < H.size := by
  match t, h, ht with
  | 0, _, ht => exact absurd rfl ht
  | 1, h, _ =>
    obtain ⟨q, -, cell, h2, -⟩ := h
    exact (Array.getElem?_eq_some_iff.mp h2).1
  | 2, h, _ => exact (Array.getElem?_eq_some_iff.mp h).1
  | 3, h, _ => exact (Array.getElem?_eq_some_iff.mp h).1
  | 4, h, _ => exact (Array.getElem?_eq_some_iff.mp h).1
  | t + 5, h, _ => exact (Array.getElem?_eq_some_iff.mp h).1
theorem tl_at_kept {G : tl_G} {t n a : Nat} {x : Nat → Int32} {y : Nat → Int64} {r : Nat → Option Nat} {H H1 : Heap} (h : tl_at G t n a x y r H) (hq : H1[a]? = H[a]?) : tl_at G t n a x y r H1 := by
  match t, h with
  | 0, _ => trivial
  | 1, h =>
    obtain ⟨q, h1, h2⟩ := h
    exact ⟨q, h1, h2.kept hq⟩
  | 2, h => exact hq.trans h
  | 3, h => exact hq.trans h
  | 4, h => exact hq.trans h
  | t + 5, h => exact hq.trans h
/-- the locals -/
def tl_lh (ls : Array Slot) (nL : Nat) (L : List (Option Value)) : Prop := ls.size = nL ∧ lv_wf ls ∧ ∀ (i : Nat) (v : Value), L[i]? = some (some v) → ls[i]? = some (.val v)
def tl_nl (L : List (Option Value)) (i : Nat) : Bool := match i with
  | 0 => true
  | i + 1 => match L[i]? with
    | some (some v) => v.category == 1
    | _ => true
def tl_pairs (L : List (Option Value)) : List (Nat × Value) := (List.range L.length).filterMap (fun i => match L[i]? with
  | some (some v) => some (i, v)
  | _ => none)
theorem tl_pairs_mem {L : List (Option Value)} {i : Nat} {v : Value} : (i, v) ∈ tl_pairs L ↔ L[i]? = some (some v) := by
  unfold tl_pairs
  rw [List.mem_filterMap]
  constructor
  · rintro ⟨k, hk, h⟩
    split at h
    · rename_i w hw
      cases h
      exact hw
    · cases h
  · intro h
    refine ⟨i, List.mem_range.mpr (List.getElem?_eq_some_iff.mp h).1, ?_⟩
    rw [h]
theorem tl_has {ls : Array Slot} {nL : Nat} {L : List (Option Value)} (h : tl_lh ls nL L) : lv_has ls nL (tl_pairs L) := ⟨h.1, h.2.1, fun q hq => h.2.2 q.1 q.2 (tl_pairs_mem.mp hq)⟩
theorem tl_st1 {ls : Array Slot} {nL i : Nat} {L : List (Option Value)} {v : Value} (hn : tl_nl L i = true) (h : lv_has ls nL ((i, v) :: (tl_pairs L).filter (fun q => !(q.1 == i) && !(q.1 + 1 == i && q.2.category == 2)))) : tl_lh ls nL (L.set i (some v)) := by
  refine ⟨h.1, h.2.1, fun j w hj => ?_⟩
  rw [List.getElem?_set] at hj
  by_cases hij : i = j
  · subst hij
    rw [if_pos rfl] at hj
    split at hj
    · cases hj
      exact h.2.2 (i, v) List.mem_cons_self
    · cases hj
  · rw [if_neg hij] at hj
    refine h.2.2 (j, w) (List.mem_cons_of_mem _ (List.mem_filter.mpr ⟨tl_pairs_mem.mpr hj, ?_⟩))
    have e1 : (j == i) = false := by simp [Ne.symm hij]
    simp only [e1, Bool.not_false, Bool.true_and, Bool.not_eq_true', Bool.and_eq_false_iff]
    by_cases h2 : j + 1 = i
    · subst h2
      right
      unfold tl_nl at hn
      simp only [hj] at hn
      have e2 : w.category = 1 := by simpa using hn
      simp [e2]
    · left
      simpa using h2
theorem tl_st2 {ls : Array Slot} {nL i : Nat} {L : List (Option Value)} {v : Value} (hn : tl_nl L i = true) (h : lv_has ls nL ((i, v) :: (tl_pairs L).filter (fun q => !(q.1 == i) && (!(q.1 == i + 1) && !(q.1 + 1 == i && q.2.category == 2))))) : tl_lh ls nL ((L.set i (some v)).set (i + 1) none) := by
  refine ⟨h.1, h.2.1, fun j w hj => ?_⟩
  rw [List.getElem?_set] at hj
  by_cases hij2 : i + 1 = j
  · rw [if_pos hij2] at hj
    split at hj <;> cases hj
  · rw [if_neg hij2, List.getElem?_set] at hj
    by_cases hij : i = j
    · subst hij
      rw [if_pos rfl] at hj
      split at hj
      · cases hj
        exact h.2.2 (i, v) List.mem_cons_self
      · cases hj
    · rw [if_neg hij] at hj
      refine h.2.2 (j, w) (List.mem_cons_of_mem _ (List.mem_filter.mpr ⟨tl_pairs_mem.mpr hj, ?_⟩))
      have e1 : (j == i) = false := by simp [Ne.symm hij]
      have e3 : (j == i + 1) = false := by simp [Ne.symm hij2]
      simp only [e1, e3, Bool.not_false, Bool.true_and, Bool.not_eq_true', Bool.and_eq_false_iff]
      by_cases h2 : j + 1 = i
      · subst h2
        right
        unfold tl_nl at hn
        simp only [hj] at hn
        have e2 : w.category = 1 := by simpa using hn
        simp [e2]
      · left
        simpa using h2
/-- what stands fixed while a method of ours runs -/
def tl_C (G : tl_G) (mt : tl_M) (p : Program) (s : State) (m : MethodId) (args : Array Value) (meth : Method) (c : Code) : Prop :=
  p.tables.exec = Jvm.exec ∧ c.code = mt.2.1 ∧ c.maxLocals = mt.2.2.1 ∧ meth.sig.returnType = mt.2.2.2.1 ∧ meth.locks = false ∧ meth.name = mt.2.2.2.2 ∧ s.vm.findClass mt.1 = some m.cls ∧ (∀ w ∈ tl_W, w.before args s = true) ∧ tl_K G s
abbrev tl_Z : Type := List Frame → Array Value → State → State → Prop
/-- THE JUDGEMENT: at pc, with locals L and stack st, over the state σ, the method comes to Z -/
def TW (G : tl_G) (mt : tl_M) (R : Room) (cells slots pc : Nat) (L : List (Option Value)) (st : List Value) (σ : tl_S) (Z : tl_Z) : Prop :=
  ∀ (p : Program) (e : Env) (s : State) (m : MethodId) (args : Array Value) (below : List Frame) (meth : Method) (c : Code) (H : Heap) (locs : List Loc) (ls : Array Slot), tl_C G mt p s m args meth c → tl_H G σ H → (∀ q ∈ locs, gB G ≤ q.base) → tl_lh ls mt.2.2.1 L →
    W p (gL G) e R s m args below meth c H locs cells slots (Z below args s) (F0 m pc ls st)
section TL
variable {G : tl_G} {mt : tl_M} {R : Room} {cells slots pc n : Nat} {L : List (Option Value)} {st : List Value} {σ : tl_S} {Z : tl_Z}

theorem T_iconst {i : Int} {v : Int32} (hd : decode mt.2.1 pc = .ok (.iconst i, 1)) (hp : pc + 1 = n) (hv : Int32.ofInt i = v) (k : TW G mt R cells slots n L (.int v :: st) σ Z) : TW G mt R cells slots pc L st σ Z := by
  subst hp
  intro p e s m args below meth c H locs ls hC hH hlo hl
  exact lv_iconst hC.1 hC.2.1 hd hv (k p e s m args below meth c H locs ls hC hH hlo hl)
theorem T_bipush {i : Int} {v : Int32} (hd : decode mt.2.1 pc = .ok (.bipush i, 2)) (hp : pc + 2 = n) (hv : (Int8.ofInt i).toInt32 = v) (k : TW G mt R cells slots n L (.int v :: st) σ Z) : TW G mt R cells slots pc L st σ Z := by
  subst hp
  intro p e s m args below meth c H locs ls hC hH hlo hl
  exact lv_bipush hC.1 hC.2.1 hd hv (k p e s m args below meth c H locs ls hC hH hlo hl)
theorem T_sipush {i : Int} {v : Int32} (hd : decode mt.2.1 pc = .ok (.sipush i, 3)) (hp : pc + 3 = n) (hv : (Int16.ofInt i).toInt32 = v) (k : TW G mt R cells slots n L (.int v :: st) σ Z) : TW G mt R cells slots pc L st σ Z := by
  subst hp
  intro p e s m args below meth c H locs ls hC hH hlo hl
  exact lv_sipush hC.1 hC.2.1 hd hv (k p e s m args below meth c H locs ls hC hH hlo hl)
theorem T_lconst {i : Fin 2} {v : Int64} (hd : decode mt.2.1 pc = .ok (.lconst i, 1)) (hp : pc + 1 = n) (hv : Int64.ofNat (i : Nat) = v) (k : TW G mt R cells slots n L (.long v :: st) σ Z) : TW G mt R cells slots pc L st σ Z := by
  subst hp
  intro p e s m args below meth c H locs ls hC hH hlo hl
  exact lv_lconst hC.1 hC.2.1 hd hv (k p e s m args below meth c H locs ls hC hH hlo hl)
theorem T_ldc2 {i : Nat} {v : Int64} (hd : decode mt.2.1 pc = .ok (.ldc2_w i, 3)) (hp : pc + 3 = n) (hw : Cond.constantLong mt.1 i v ∈ tl_W) (k : TW G mt R cells slots n L (.long v :: st) σ Z) : TW G mt R cells slots pc L st σ Z := by
  subst hp
  intro p e s m args below meth c H locs ls hC hH hlo hl
  exact lv_ldc2 hC.1 hC.2.1 hC.2.2.2.2.2.2.1 (hC.2.2.2.2.2.2.2.1 _ hw) hd (k p e s m args below meth c H locs ls hC hH hlo hl)
theorem T_iload_n {i : Fin 4} {x : Int32} (hd : decode mt.2.1 pc = .ok (.iload_n i, 1)) (hp : pc + 1 = n) (hl0 : L[(i : Nat)]? = some (some (.int x))) (k : TW G mt R cells slots n L (.int x :: st) σ Z) : TW G mt R cells slots pc L st σ Z := by
  subst hp
  intro p e s m args below meth c H locs ls hC hH hlo hl
  exact lv_iload_n hC.1 hC.2.1 hd rfl (hl.2.2 _ _ hl0) (k p e s m args below meth c H locs ls hC hH hlo hl)
theorem T_iload {i : Nat} {x : Int32} (hd : decode mt.2.1 pc = .ok (.iload i, 2)) (hp : pc + 2 = n) (hl0 : L[i]? = some (some (.int x))) (k : TW G mt R cells slots n L (.int x :: st) σ Z) : TW G mt R cells slots pc L st σ Z := by
  subst hp
  intro p e s m args below meth c H locs ls hC hH hlo hl
  exact lv_iload hC.1 hC.2.1 hd (hl.2.2 _ _ hl0) (k p e s m args below meth c H locs ls hC hH hlo hl)
theorem T_aload_n {i : Fin 4} {x : Nat} (hd : decode mt.2.1 pc = .ok (.aload_n i, 1)) (hp : pc + 1 = n) (hl0 : L[(i : Nat)]? = some (some (.ref x))) (k : TW G mt R cells slots n L (.ref x :: st) σ Z) : TW G mt R cells slots pc L st σ Z := by
  subst hp
  intro p e s m args below meth c H locs ls hC hH hlo hl
  exact lv_aload_n hC.1 hC.2.1 hd rfl (hl.2.2 _ _ hl0) (k p e s m args below meth c H locs ls hC hH hlo hl)
theorem T_aload {i : Nat} {x : Nat} (hd : decode mt.2.1 pc = .ok (.aload i, 2)) (hp : pc + 2 = n) (hl0 : L[i]? = some (some (.ref x))) (k : TW G mt R cells slots n L (.ref x :: st) σ Z) : TW G mt R cells slots pc L st σ Z := by
  subst hp
  intro p e s m args below meth c H locs ls hC hH hlo hl
  exact lv_aload hC.1 hC.2.1 hd (hl.2.2 _ _ hl0) (k p e s m args below meth c H locs ls hC hH hlo hl)
theorem T_lload_n {i : Fin 4} {x : Int64} (hd : decode mt.2.1 pc = .ok (.lload_n i, 1)) (hp : pc + 1 = n) (hl0 : L[(i : Nat)]? = some (some (.long x))) (k : TW G mt R cells slots n L (.long x :: st) σ Z) : TW G mt R cells slots pc L st σ Z := by
  subst hp
  intro p e s m args below meth c H locs ls hC hH hlo hl
  exact lv_lload_n hC.1 hC.2.1 hd rfl (hl.2.2 _ _ hl0) (k p e s m args below meth c H locs ls hC hH hlo hl)
theorem T_lload {i : Nat} {x : Int64} (hd : decode mt.2.1 pc = .ok (.lload i, 2)) (hp : pc + 2 = n) (hl0 : L[i]? = some (some (.long x))) (k : TW G mt R cells slots n L (.long x :: st) σ Z) : TW G mt R cells slots pc L st σ Z := by
  subst hp
  intro p e s m args below meth c H locs ls hC hH hlo hl
  exact lv_lload hC.1 hC.2.1 hd (hl.2.2 _ _ hl0) (k p e s m args below meth c H locs ls hC hH hlo hl)
theorem T_istore {i : Nat} {x : Int32} (hd : decode mt.2.1 pc = .ok (.istore i, 2)) (hp : pc + 2 = n) (hn : i < mt.2.2.1) (hk : tl_nl L i = true) (k : TW G mt R cells slots n (L.set i (some (.int x))) st σ Z) : TW G mt R cells slots pc L (.int x :: st) σ Z := by
  subst hp
  intro p e s m args below meth c H locs ls hC hH hlo hl
  exact lv_istore hC.1 hC.2.1 hd (tl_has hl) hn rfl (fun ls' h' => k p e s m args below meth c H locs ls' hC hH hlo (tl_st1 hk h'))
theorem T_istore_n {i : Fin 4} {x : Int32} (hd : decode mt.2.1 pc = .ok (.istore_n i, 1)) (hp : pc + 1 = n) (hn : (i : Nat) < mt.2.2.1) (hk : tl_nl L (i : Nat) = true) (k : TW G mt R cells slots n (L.set (i : Nat) (some (.int x))) st σ Z) : TW G mt R cells slots pc L (.int x :: st) σ Z := by
  subst hp
  intro p e s m args below meth c H locs ls hC hH hlo hl
  exact lv_istore_n hC.1 hC.2.1 hd rfl (tl_has hl) hn rfl (fun ls' h' => k p e s m args below meth c H locs ls' hC hH hlo (tl_st1 hk h'))
theorem T_astore {i : Nat} {x : Nat} (hd : decode mt.2.1 pc = .ok (.astore i, 2)) (hp : pc + 2 = n) (hn : i < mt.2.2.1) (hk : tl_nl L i = true) (k : TW G mt R cells slots n (L.set i (some (.ref x))) st σ Z) : TW G mt R cells slots pc L (.ref x :: st) σ Z := by
  subst hp
  intro p e s m args below meth c H locs ls hC hH hlo hl
  exact lv_astore hC.1 hC.2.1 hd (tl_has hl) hn rfl (fun ls' h' => k p e s m args below meth c H locs ls' hC hH hlo (tl_st1 hk h'))
theorem T_astore_n {i : Fin 4} {x : Nat} (hd : decode mt.2.1 pc = .ok (.astore_n i, 1)) (hp : pc + 1 = n) (hn : (i : Nat) < mt.2.2.1) (hk : tl_nl L (i : Nat) = true) (k : TW G mt R cells slots n (L.set (i : Nat) (some (.ref x))) st σ Z) : TW G mt R cells slots pc L (.ref x :: st) σ Z := by
  subst hp
  intro p e s m args below meth c H locs ls hC hH hlo hl
  exact lv_astore_n hC.1 hC.2.1 hd rfl (tl_has hl) hn rfl (fun ls' h' => k p e s m args below meth c H locs ls' hC hH hlo (tl_st1 hk h'))
theorem T_lstore {i : Nat} {x : Int64} (hd : decode mt.2.1 pc = .ok (.lstore i, 2)) (hp : pc + 2 = n) (hn : i + 1 < mt.2.2.1) (hk : tl_nl L i = true) (k : TW G mt R cells slots n ((L.set i (some (.long x))).set (i + 1) none) st σ Z) : TW G mt R cells slots pc L (.long x :: st) σ Z := by
  subst hp
  intro p e s m args below meth c H locs ls hC hH hlo hl
  exact lv_lstore hC.1 hC.2.1 hd (tl_has hl) hn rfl (fun ls' h' => k p e s m args below meth c H locs ls' hC hH hlo (tl_st2 hk h'))
theorem T_lstore_n {i : Fin 4} {x : Int64} (hd : decode mt.2.1 pc = .ok (.lstore_n i, 1)) (hp : pc + 1 = n) (hn : (i : Nat) + 1 < mt.2.2.1) (hk : tl_nl L (i : Nat) = true) (k : TW G mt R cells slots n ((L.set (i : Nat) (some (.long x))).set ((i : Nat) + 1) none) st σ Z) : TW G mt R cells slots pc L (.long x :: st) σ Z := by
  subst hp
  intro p e s m args below meth c H locs ls hC hH hlo hl
  exact lv_lstore_n hC.1 hC.2.1 hd rfl (tl_has hl) hn rfl (fun ls' h' => k p e s m args below meth c H locs ls' hC hH hlo (tl_st2 hk h'))
theorem T_iinc {i : Nat} {d : Int} {x : Int32} (hd : decode mt.2.1 pc = .ok (.iinc i d, 3)) (hp : pc + 3 = n) (hl0 : L[i]? = some (some (.int x))) (hn : i < mt.2.2.1) (hk : tl_nl L i = true) (k : TW G mt R cells slots n (L.set i (some (.int (x + Int32.ofInt d)))) st σ Z) : TW G mt R cells slots pc L st σ Z := by
  subst hp
  intro p e s m args below meth c H locs ls hC hH hlo hl
  obtain ⟨j, hj⟩ := List.getElem?_of_mem (tl_pairs_mem.mpr hl0)
  exact lv_iinc hC.1 hC.2.1 hd (tl_has hl) hj rfl hn rfl (fun ls' h' => k p e s m args below meth c H locs ls' hC hH hlo (tl_st1 hk h'))
theorem T_iadd {x y : Int32} (hd : decode mt.2.1 pc = .ok (.iadd, 1)) (hp : pc + 1 = n) (k : TW G mt R cells slots n L (.int (x + y) :: st) σ Z) : TW G mt R cells slots pc L (.int y :: .int x :: st) σ Z := by
  subst hp
  intro p e s m args below meth c H locs ls hC hH hlo hl
  exact lv_iadd hC.1 hC.2.1 hd (k p e s m args below meth c H locs ls hC hH hlo hl)
theorem T_isub {x y : Int32} (hd : decode mt.2.1 pc = .ok (.isub, 1)) (hp : pc + 1 = n) (k : TW G mt R cells slots n L (.int (x - y) :: st) σ Z) : TW G mt R cells slots pc L (.int y :: .int x :: st) σ Z := by
  subst hp
  intro p e s m args below meth c H locs ls hC hH hlo hl
  exact lv_isub hC.1 hC.2.1 hd (k p e s m args below meth c H locs ls hC hH hlo hl)
theorem T_imul {x y : Int32} (hd : decode mt.2.1 pc = .ok (.imul, 1)) (hp : pc + 1 = n) (k : TW G mt R cells slots n L (.int (x * y) :: st) σ Z) : TW G mt R cells slots pc L (.int y :: .int x :: st) σ Z := by
  subst hp
  intro p e s m args below meth c H locs ls hC hH hlo hl
  exact lv_imul hC.1 hC.2.1 hd (k p e s m args below meth c H locs ls hC hH hlo hl)
theorem T_iand {x y : Int32} (hd : decode mt.2.1 pc = .ok (.iand, 1)) (hp : pc + 1 = n) (k : TW G mt R cells slots n L (.int (x &&& y) :: st) σ Z) : TW G mt R cells slots pc L (.int y :: .int x :: st) σ Z := by
  subst hp
  intro p e s m args below meth c H locs ls hC hH hlo hl
  exact lv_iand hC.1 hC.2.1 hd (k p e s m args below meth c H locs ls hC hH hlo hl)
theorem T_ior {x y : Int32} (hd : decode mt.2.1 pc = .ok (.ior, 1)) (hp : pc + 1 = n) (k : TW G mt R cells slots n L (.int (x ||| y) :: st) σ Z) : TW G mt R cells slots pc L (.int y :: .int x :: st) σ Z := by
  subst hp
  intro p e s m args below meth c H locs ls hC hH hlo hl
  exact lv_ior hC.1 hC.2.1 hd (k p e s m args below meth c H locs ls hC hH hlo hl)
theorem T_ixor {x y : Int32} (hd : decode mt.2.1 pc = .ok (.ixor, 1)) (hp : pc + 1 = n) (k : TW G mt R cells slots n L (.int (x ^^^ y) :: st) σ Z) : TW G mt R cells slots pc L (.int y :: .int x :: st) σ Z := by
  subst hp
  intro p e s m args below meth c H locs ls hC hH hlo hl
  exact lv_ixor hC.1 hC.2.1 hd (k p e s m args below meth c H locs ls hC hH hlo hl)
theorem T_ishl {x y : Int32} (hd : decode mt.2.1 pc = .ok (.ishl, 1)) (hp : pc + 1 = n) (k : TW G mt R cells slots n L (.int (x <<< (y &&& 31)) :: st) σ Z) : TW G mt R cells slots pc L (.int y :: .int x :: st) σ Z := by
  subst hp
  intro p e s m args below meth c H locs ls hC hH hlo hl
  exact lv_ishl hC.1 hC.2.1 hd (k p e s m args below meth c H locs ls hC hH hlo hl)
theorem T_ishr {x y : Int32} (hd : decode mt.2.1 pc = .ok (.ishr, 1)) (hp : pc + 1 = n) (k : TW G mt R cells slots n L (.int (x >>> (y &&& 31)) :: st) σ Z) : TW G mt R cells slots pc L (.int y :: .int x :: st) σ Z := by
  subst hp
  intro p e s m args below meth c H locs ls hC hH hlo hl
  exact lv_ishr hC.1 hC.2.1 hd (k p e s m args below meth c H locs ls hC hH hlo hl)
theorem T_idiv {x y : Int32} (hd : decode mt.2.1 pc = .ok (.idiv, 1)) (hp : pc + 1 = n) (hne : ¬ y = 0) (k : TW G mt R cells slots n L (.int (x / y) :: st) σ Z) : TW G mt R cells slots pc L (.int y :: .int x :: st) σ Z := by
  subst hp
  intro p e s m args below meth c H locs ls hC hH hlo hl
  exact lv_idiv hC.1 hC.2.1 hd hne (k p e s m args below meth c H locs ls hC hH hlo hl)
theorem T_irem {x y : Int32} (hd : decode mt.2.1 pc = .ok (.irem, 1)) (hp : pc + 1 = n) (hne : ¬ y = 0) (k : TW G mt R cells slots n L (.int (x - x / y * y) :: st) σ Z) : TW G mt R cells slots pc L (.int y :: .int x :: st) σ Z := by
  subst hp
  intro p e s m args below meth c H locs ls hC hH hlo hl
  exact lv_irem hC.1 hC.2.1 hd hne (k p e s m args below meth c H locs ls hC hH hlo hl)
theorem T_ladd {x y : Int64} (hd : decode mt.2.1 pc = .ok (.ladd, 1)) (hp : pc + 1 = n) (k : TW G mt R cells slots n L (.long (x + y) :: st) σ Z) : TW G mt R cells slots pc L (.long y :: .long x :: st) σ Z := by
  subst hp
  intro p e s m args below meth c H locs ls hC hH hlo hl
  exact lv_ladd hC.1 hC.2.1 hd (k p e s m args below meth c H locs ls hC hH hlo hl)
theorem T_lsub {x y : Int64} (hd : decode mt.2.1 pc = .ok (.lsub, 1)) (hp : pc + 1 = n) (k : TW G mt R cells slots n L (.long (x - y) :: st) σ Z) : TW G mt R cells slots pc L (.long y :: .long x :: st) σ Z := by
  subst hp
  intro p e s m args below meth c H locs ls hC hH hlo hl
  exact lv_lsub hC.1 hC.2.1 hd (k p e s m args below meth c H locs ls hC hH hlo hl)
theorem T_lmul {x y : Int64} (hd : decode mt.2.1 pc = .ok (.lmul, 1)) (hp : pc + 1 = n) (k : TW G mt R cells slots n L (.long (x * y) :: st) σ Z) : TW G mt R cells slots pc L (.long y :: .long x :: st) σ Z := by
  subst hp
  intro p e s m args below meth c H locs ls hC hH hlo hl
  exact lv_lmul hC.1 hC.2.1 hd (k p e s m args below meth c H locs ls hC hH hlo hl)
theorem T_land {x y : Int64} (hd : decode mt.2.1 pc = .ok (.land, 1)) (hp : pc + 1 = n) (k : TW G mt R cells slots n L (.long (x &&& y) :: st) σ Z) : TW G mt R cells slots pc L (.long y :: .long x :: st) σ Z := by
  subst hp
  intro p e s m args below meth c H locs ls hC hH hlo hl
  exact lv_land hC.1 hC.2.1 hd (k p e s m args below meth c H locs ls hC hH hlo hl)
theorem T_lor {x y : Int64} (hd : decode mt.2.1 pc = .ok (.lor, 1)) (hp : pc + 1 = n) (k : TW G mt R cells slots n L (.long (x ||| y) :: st) σ Z) : TW G mt R cells slots pc L (.long y :: .long x :: st) σ Z := by
  subst hp
  intro p e s m args below meth c H locs ls hC hH hlo hl
  exact lv_lor hC.1 hC.2.1 hd (k p e s m args below meth c H locs ls hC hH hlo hl)
theorem T_lxor {x y : Int64} (hd : decode mt.2.1 pc = .ok (.lxor, 1)) (hp : pc + 1 = n) (k : TW G mt R cells slots n L (.long (x ^^^ y) :: st) σ Z) : TW G mt R cells slots pc L (.long y :: .long x :: st) σ Z := by
  subst hp
  intro p e s m args below meth c H locs ls hC hH hlo hl
  exact lv_lxor hC.1 hC.2.1 hd (k p e s m args below meth c H locs ls hC hH hlo hl)
theorem T_lshl {x : Int64} {y : Int32} (hd : decode mt.2.1 pc = .ok (.lshl, 1)) (hp : pc + 1 = n) (k : TW G mt R cells slots n L (.long (x <<< (y.toInt64 &&& 63)) :: st) σ Z) : TW G mt R cells slots pc L (.int y :: .long x :: st) σ Z := by
  subst hp
  intro p e s m args below meth c H locs ls hC hH hlo hl
  exact lv_lshl hC.1 hC.2.1 hd rfl (k p e s m args below meth c H locs ls hC hH hlo hl)
theorem T_lshr {x : Int64} {y : Int32} (hd : decode mt.2.1 pc = .ok (.lshr, 1)) (hp : pc + 1 = n) (k : TW G mt R cells slots n L (.long (x >>> (y.toInt64 &&& 63)) :: st) σ Z) : TW G mt R cells slots pc L (.int y :: .long x :: st) σ Z := by
  subst hp
  intro p e s m args below meth c H locs ls hC hH hlo hl
  exact lv_lshr hC.1 hC.2.1 hd rfl (k p e s m args below meth c H locs ls hC hH hlo hl)
theorem T_lushr {x : Int64} {y : Int32} (hd : decode mt.2.1 pc = .ok (.lushr, 1)) (hp : pc + 1 = n) (k : TW G mt R cells slots n L (.long ((x.toUInt64 >>> (y.toInt64.toUInt64 &&& Int64.toUInt64 63)).toInt64) :: st) σ Z) : TW G mt R cells slots pc L (.int y :: .long x :: st) σ Z := by
  subst hp
  intro p e s m args below meth c H locs ls hC hH hlo hl
  exact lv_lushr hC.1 hC.2.1 hd rfl (k p e s m args below meth c H locs ls hC hH hlo hl)
theorem T_lcmp {x y : Int64} (hd : decode mt.2.1 pc = .ok (.lcmp, 1)) (hp : pc + 1 = n) (k : TW G mt R cells slots n L (.int (lg_cmp x y) :: st) σ Z) : TW G mt R cells slots pc L (.long y :: .long x :: st) σ Z := by
  subst hp
  intro p e s m args below meth c H locs ls hC hH hlo hl
  exact W.lcmp hC.1 hC.2.1 hd (k p e s m args below meth c H locs ls hC hH hlo hl)
theorem T_i2l {x : Int32} (hd : decode mt.2.1 pc = .ok (.i2l, 1)) (hp : pc + 1 = n) (k : TW G mt R cells slots n L (.long x.toInt64 :: st) σ Z) : TW G mt R cells slots pc L (.int x :: st) σ Z := by
  subst hp
  intro p e s m args below meth c H locs ls hC hH hlo hl
  exact lv_i2l hC.1 hC.2.1 hd rfl (k p e s m args below meth c H locs ls hC hH hlo hl)
theorem T_l2i {x : Int64} (hd : decode mt.2.1 pc = .ok (.l2i, 1)) (hp : pc + 1 = n) (k : TW G mt R cells slots n L (.int x.toInt32 :: st) σ Z) : TW G mt R cells slots pc L (.long x :: st) σ Z := by
  subst hp
  intro p e s m args below meth c H locs ls hC hH hlo hl
  exact lv_l2i hC.1 hC.2.1 hd rfl (k p e s m args below meth c H locs ls hC hH hlo hl)
theorem T_dup {v : Value} (hd : decode mt.2.1 pc = .ok (.dup, 1)) (hp : pc + 1 = n) (hv : v.category = 1) (k : TW G mt R cells slots n L (v :: v :: st) σ Z) : TW G mt R cells slots pc L (v :: st) σ Z := by
  subst hp
  intro p e s m args below meth c H locs ls hC hH hlo hl
  exact lv_dup hC.1 hC.2.1 hd hv (k p e s m args below meth c H locs ls hC hH hlo hl)
theorem T_pop {v : Value} (hd : decode mt.2.1 pc = .ok (.pop, 1)) (hp : pc + 1 = n) (hv : v.category = 1) (k : TW G mt R cells slots n L st σ Z) : TW G mt R cells slots pc L (v :: st) σ Z := by
  subst hp
  intro p e s m args below meth c H locs ls hC hH hlo hl
  exact lv_pop hC.1 hC.2.1 hd hv (k p e s m args below meth c H locs ls hC hH hlo hl)
theorem T_dup2 {v w : Value} (hd : decode mt.2.1 pc = .ok (.dup2, 1)) (hp : pc + 1 = n) (hv : v.category = 1) (hw : w.category = 1) (k : TW G mt R cells slots n L (v :: w :: v :: w :: st) σ Z) : TW G mt R cells slots pc L (v :: w :: st) σ Z := by
  subst hp
  intro p e s m args below meth c H locs ls hC hH hlo hl
  exact lv_dup2_11 hC.1 hC.2.1 hd hv hw (k p e s m args below meth c H locs ls hC hH hlo hl)
theorem T_if_eq {x : Int32} {off : Int} {t : Nat} (hd : decode mt.2.1 pc = .ok (.ifCond .eq off, 3)) (hp : pc + 3 = n) (ht : (pc : Int) + off = (t : Int)) (kt : x = 0 → TW G mt R cells slots t L st σ Z) (kf : ¬ x = 0 → TW G mt R cells slots n L st σ Z) : TW G mt R cells slots pc L (.int x :: st) σ Z := by
  subst hp
  intro p e s m args below meth c H locs ls hC hH hlo hl
  exact lv_if_eq hC.1 hC.2.1 hd ht (fun h => kt h p e s m args below meth c H locs ls hC hH hlo hl) (fun h => kf h p e s m args below meth c H locs ls hC hH hlo hl)
theorem T_icmp_eq {x y : Int32} {off : Int} {t : Nat} (hd : decode mt.2.1 pc = .ok (.if_icmp .eq off, 3)) (hp : pc + 3 = n) (ht : (pc : Int) + off = (t : Int)) (kt : x = y → TW G mt R cells slots t L st σ Z) (kf : ¬ x = y → TW G mt R cells slots n L st σ Z) : TW G mt R cells slots pc L (.int y :: .int x :: st) σ Z := by
  subst hp
  intro p e s m args below meth c H locs ls hC hH hlo hl
  exact lv_icmp_eq hC.1 hC.2.1 hd ht (fun h => kt h p e s m args below meth c H locs ls hC hH hlo hl) (fun h => kf h p e s m args below meth c H locs ls hC hH hlo hl)
theorem T_if_ne {x : Int32} {off : Int} {t : Nat} (hd : decode mt.2.1 pc = .ok (.ifCond .ne off, 3)) (hp : pc + 3 = n) (ht : (pc : Int) + off = (t : Int)) (kt : ¬ x = 0 → TW G mt R cells slots t L st σ Z) (kf : x = 0 → TW G mt R cells slots n L st σ Z) : TW G mt R cells slots pc L (.int x :: st) σ Z := by
  subst hp
  intro p e s m args below meth c H locs ls hC hH hlo hl
  exact lv_if_ne hC.1 hC.2.1 hd ht (fun h => kt h p e s m args below meth c H locs ls hC hH hlo hl) (fun h => kf h p e s m args below meth c H locs ls hC hH hlo hl)
theorem T_icmp_ne {x y : Int32} {off : Int} {t : Nat} (hd : decode mt.2.1 pc = .ok (.if_icmp .ne off, 3)) (hp : pc + 3 = n) (ht : (pc : Int) + off = (t : Int)) (kt : ¬ x = y → TW G mt R cells slots t L st σ Z) (kf : x = y → TW G mt R cells slots n L st σ Z) : TW G mt R cells slots pc L (.int y :: .int x :: st) σ Z := by
  subst hp
  intro p e s m args below meth c H locs ls hC hH hlo hl
  exact lv_icmp_ne hC.1 hC.2.1 hd ht (fun h => kt h p e s m args below meth c H locs ls hC hH hlo hl) (fun h => kf h p e s m args below meth c H locs ls hC hH hlo hl)
theorem T_if_lt {x : Int32} {off : Int} {t : Nat} (hd : decode mt.2.1 pc = .ok (.ifCond .lt off, 3)) (hp : pc + 3 = n) (ht : (pc : Int) + off = (t : Int)) (kt : x < 0 → TW G mt R cells slots t L st σ Z) (kf : ¬ x < 0 → TW G mt R cells slots n L st σ Z) : TW G mt R cells slots pc L (.int x :: st) σ Z := by
  subst hp
  intro p e s m args below meth c H locs ls hC hH hlo hl
  exact lv_if_lt hC.1 hC.2.1 hd ht (fun h => kt h p e s m args below meth c H locs ls hC hH hlo hl) (fun h => kf h p e s m args below meth c H locs ls hC hH hlo hl)
theorem T_icmp_lt {x y : Int32} {off : Int} {t : Nat} (hd : decode mt.2.1 pc = .ok (.if_icmp .lt off, 3)) (hp : pc + 3 = n) (ht : (pc : Int) + off = (t : Int)) (kt : x < y → TW G mt R cells slots t L st σ Z) (kf : ¬ x < y → TW G mt R cells slots n L st σ Z) : TW G mt R cells slots pc L (.int y :: .int x :: st) σ Z := by
  subst hp
  intro p e s m args below meth c H locs ls hC hH hlo hl
  exact lv_icmp_lt hC.1 hC.2.1 hd ht (fun h => kt h p e s m args below meth c H locs ls hC hH hlo hl) (fun h => kf h p e s m args below meth c H locs ls hC hH hlo hl)
theorem T_if_ge {x : Int32} {off : Int} {t : Nat} (hd : decode mt.2.1 pc = .ok (.ifCond .ge off, 3)) (hp : pc + 3 = n) (ht : (pc : Int) + off = (t : Int)) (kt : 0 ≤ x → TW G mt R cells slots t L st σ Z) (kf : ¬ 0 ≤ x → TW G mt R cells slots n L st σ Z) : TW G mt R cells slots pc L (.int x :: st) σ Z := by
  subst hp
  intro p e s m args below meth c H locs ls hC hH hlo hl
  exact lv_if_ge hC.1 hC.2.1 hd ht (fun h => kt h p e s m args below meth c H locs ls hC hH hlo hl) (fun h => kf h p e s m args below meth c H locs ls hC hH hlo hl)
theorem T_icmp_ge {x y : Int32} {off : Int} {t : Nat} (hd : decode mt.2.1 pc = .ok (.if_icmp .ge off, 3)) (hp : pc + 3 = n) (ht : (pc : Int) + off = (t : Int)) (kt : y ≤ x → TW G mt R cells slots t L st σ Z) (kf : ¬ y ≤ x → TW G mt R cells slots n L st σ Z) : TW G mt R cells slots pc L (.int y :: .int x :: st) σ Z := by
  subst hp
  intro p e s m args below meth c H locs ls hC hH hlo hl
  exact lv_icmp_ge hC.1 hC.2.1 hd ht (fun h => kt h p e s m args below meth c H locs ls hC hH hlo hl) (fun h => kf h p e s m args below meth c H locs ls hC hH hlo hl)
theorem T_if_gt {x : Int32} {off : Int} {t : Nat} (hd : decode mt.2.1 pc = .ok (.ifCond .gt off, 3)) (hp : pc + 3 = n) (ht : (pc : Int) + off = (t : Int)) (kt : 0 < x → TW G mt R cells slots t L st σ Z) (kf : ¬ 0 < x → TW G mt R cells slots n L st σ Z) : TW G mt R cells slots pc L (.int x :: st) σ Z := by
  subst hp
  intro p e s m args below meth c H locs ls hC hH hlo hl
  exact lv_if_gt hC.1 hC.2.1 hd ht (fun h => kt h p e s m args below meth c H locs ls hC hH hlo hl) (fun h => kf h p e s m args below meth c H locs ls hC hH hlo hl)
theorem T_icmp_gt {x y : Int32} {off : Int} {t : Nat} (hd : decode mt.2.1 pc = .ok (.if_icmp .gt off, 3)) (hp : pc + 3 = n) (ht : (pc : Int) + off = (t : Int)) (kt : y < x → TW G mt R cells slots t L st σ Z) (kf : ¬ y < x → TW G mt R cells slots n L st σ Z) : TW G mt R cells slots pc L (.int y :: .int x :: st) σ Z := by
  subst hp
  intro p e s m args below meth c H locs ls hC hH hlo hl
  exact lv_icmp_gt hC.1 hC.2.1 hd ht (fun h => kt h p e s m args below meth c H locs ls hC hH hlo hl) (fun h => kf h p e s m args below meth c H locs ls hC hH hlo hl)
theorem T_if_le {x : Int32} {off : Int} {t : Nat} (hd : decode mt.2.1 pc = .ok (.ifCond .le off, 3)) (hp : pc + 3 = n) (ht : (pc : Int) + off = (t : Int)) (kt : x ≤ 0 → TW G mt R cells slots t L st σ Z) (kf : ¬ x ≤ 0 → TW G mt R cells slots n L st σ Z) : TW G mt R cells slots pc L (.int x :: st) σ Z := by
  subst hp
  intro p e s m args below meth c H locs ls hC hH hlo hl
  exact lv_if_le hC.1 hC.2.1 hd ht (fun h => kt h p e s m args below meth c H locs ls hC hH hlo hl) (fun h => kf h p e s m args below meth c H locs ls hC hH hlo hl)
theorem T_icmp_le {x y : Int32} {off : Int} {t : Nat} (hd : decode mt.2.1 pc = .ok (.if_icmp .le off, 3)) (hp : pc + 3 = n) (ht : (pc : Int) + off = (t : Int)) (kt : x ≤ y → TW G mt R cells slots t L st σ Z) (kf : ¬ x ≤ y → TW G mt R cells slots n L st σ Z) : TW G mt R cells slots pc L (.int y :: .int x :: st) σ Z := by
  subst hp
  intro p e s m args below meth c H locs ls hC hH hlo hl
  exact lv_icmp_le hC.1 hC.2.1 hd ht (fun h => kt h p e s m args below meth c H locs ls hC hH hlo hl) (fun h => kf h p e s m args below meth c H locs ls hC hH hlo hl)
theorem T_goto {off : Int} {t : Nat} (hd : decode mt.2.1 pc = .ok (.goto off, 3)) (ht : (pc : Int) + off = (t : Int)) (k : TW G mt R cells slots t L st σ Z) : TW G mt R cells slots pc L st σ Z := by
  intro p e s m args below meth c H locs ls hC hH hlo hl
  exact lv_goto hC.1 hC.2.1 hd ht (k p e s m args below meth c H locs ls hC hH hlo hl)
theorem T_tin {x : Int32} {d lo hi off : Int} {offs : Array Int} {len t : Nat} (hd : decode mt.2.1 pc = .ok (.tableswitch d lo hi offs, len)) (h1 : ¬ x.toInt < lo) (h2 : ¬ hi < x.toInt) (ho : offs[(x.toInt - lo).toNat]? = some off) (ht : (pc : Int) + off = (t : Int)) (k : TW G mt R cells slots t L st σ Z) : TW G mt R cells slots pc L (.int x :: st) σ Z := by
  intro p e s m args below meth c H locs ls hC hH hlo hl
  exact lv_tableIn hC.1 hC.2.1 hd h1 h2 ho ht (k p e s m args below meth c H locs ls hC hH hlo hl)
theorem T_tout {x : Int32} {d lo hi : Int} {offs : Array Int} {len t : Nat} (hd : decode mt.2.1 pc = .ok (.tableswitch d lo hi offs, len)) (h1 : x.toInt < lo ∨ hi < x.toInt) (ht : (pc : Int) + d = (t : Int)) (k : TW G mt R cells slots t L st σ Z) : TW G mt R cells slots pc L (.int x :: st) σ Z := by
  intro p e s m args below meth c H locs ls hC hH hlo hl
  exact lv_tableOut hC.1 hC.2.1 hd h1 ht (k p e s m args below meth c H locs ls hC hH hlo hl)
theorem T_lsw {x : Int32} {d off : Int} {ps : Array (Int × Int)} {len t : Nat} (hd : decode mt.2.1 pc = .ok (.lookupswitch d ps, len)) (hq : (ps.toList.zip (ps.toList.drop 1)).all (fun (a, next) => a.1 < next.1) = true) (ho : Op.lookupswitch.offset ps.toList d x.toInt = off) (ht : (pc : Int) + off = (t : Int)) (k : TW G mt R cells slots t L st σ Z) : TW G mt R cells slots pc L (.int x :: st) σ Z := by
  intro p e s m args below meth c H locs ls hC hH hlo hl
  exact lv_lookup hC.1 hC.2.1 hd hq ho ht (k p e s m args below meth c H locs ls hC hH hlo hl)

theorem T_widen {k' n' : Nat} (h1 : cells ≤ k') (h2 : slots ≤ n') (k : TW G mt R k' n' pc L st σ Z) : TW G mt R cells slots pc L st σ Z := fun p e s m args below meth c H locs ls hC hH hlo hl => W.widen h1 h2 (k p e s m args below meth c H locs ls hC hH hlo hl)
/-- fewer locals known -/
theorem T_loc {L' : List (Option Value)} (h : ∀ (i : Nat) (v : Value), L'[i]? = some (some v) → L[i]? = some (some v)) (k : TW G mt R cells slots pc L' st σ Z) : TW G mt R cells slots pc L st σ Z := fun p e s m args below meth c H locs ls hC hH hlo hl => k p e s m args below meth c H locs ls hC hH hlo ⟨hl.1, hl.2.1, fun i v q => hl.2.2 i v (h i v q)⟩
end TL
end
section
/-! ===== T-LAYER: memory ===== -/
section TM
variable {G : tl_G} {mt : tl_M} {R : Room} {cells slots pc n : Nat} {L : List (Option Value)} {st : List Value} {σ : tl_S} {Z : tl_Z}
/-- a field's link: pool entry idx of class own is field k of class number ci, of type ty, final or not -/
def tl_FF (own : String) (idx ci k : Nat) (ty : FieldType) (fin : Bool) : Prop := ∃ (C : String) (T : u_T) (N : Nat), tl_cl[ci]? = some (C, T, N) ∧ k < N ∧ (∀ w ∈ u_ws C T N, w ∈ tl_W) ∧ Cond.fieldLink own idx (T k).1 (T k).2.1 (T k).2.2.1 ∈ tl_W ∧ (∀ j, j < N → parseFieldDescriptor (T j).2.2.1 = some (tl_ty ci j)) ∧ (∀ a, a < N → ∀ b, b < N → a ≠ b → (T a).2.1 ≠ (T b).2.1) ∧ tl_ty ci k = ty ∧ (T k).2.2.2 = fin ∧ (fin = true → (T k).1 = own)
theorem tl_own {H : Heap} {a : Nat} (h : tl_H G σ H) (hs : (sS σ a).1 ≠ 0) : gB G ≤ a := Nat.not_lt.mp fun q => hs (h.2.2.2.1 a q)
theorem tl_H_upd {σ' : tl_S} {H H' : Heap} {a : Nat} (h : tl_H G σ H) (hz : H'.size = H.size) (ho : ∀ q, q ≠ a → H'[q]? = H[q]?) (hB : gB G ≤ a) (hS : sS σ' = sS σ) (hZ : sZ σ' = sZ σ) (hM : ∀ b, b ≠ a → sM σ' b = sM σ b) (hJ : ∀ b, b ≠ a → sJ σ' b = sJ σ b) (hP : ∀ b, b ≠ a → sP σ' b = sP σ b) (hc : tl_cell G σ' a H') : tl_H G σ' H' := by
  obtain ⟨h1, h2, h3, h4, h5⟩ := h
  refine ⟨by rw [hz, hZ]; exact h1, by rw [hZ]; exact h2, fun q hq => (ho q (by omega)).trans (h3 q hq), fun b hb => by rw [hS]; exact h4 b hb, fun b => ?_⟩
  by_cases hb : b = a
  · subst hb; exact hc
  · have h6 := h5 b
    unfold tl_cell at h6 ⊢
    rw [hS, hM b hb, hJ b hb, hP b hb]
    exact tl_at_kept h6 (ho b hb)
/-- a new cell at the heap's end -/
theorem tl_H_new {σ' : tl_S} {H H' : Heap} {t0 n0 : Nat} (h : tl_H G σ H) (hz : H'.size = sZ σ + 1) (ho : ∀ q, q < sZ σ → H'[q]? = H[q]?) (hS : sS σ' = up1 (sS σ) (sZ σ) (t0, n0)) (hZ : sZ σ' = sZ σ + 1) (hM : ∀ b, b ≠ sZ σ → sM σ' b = sM σ b) (hJ : ∀ b, b ≠ sZ σ → sJ σ' b = sJ σ b) (hP : ∀ b, b ≠ sZ σ → sP σ' b = sP σ b) (hc : tl_at G t0 n0 (sZ σ) (sM σ' (sZ σ)) (sJ σ' (sZ σ)) (sP σ' (sZ σ)) H') : tl_H G σ' H' := by
  obtain ⟨h1, h2, h3, h4, h5⟩ := h
  refine ⟨by rw [hz, hZ], by rw [hZ]; omega, fun q hq => (ho q (by omega)).trans (h3 q hq), fun b hb => by rw [hS, up1_o (by omega)]; exact h4 b hb, fun b => ?_⟩
  by_cases hb : b = sZ σ
  · subst hb
    unfold tl_cell
    rw [hS, up1_s]
    exact hc
  · have h6 := h5 b
    unfold tl_cell at h6 ⊢
    rw [hS, up1_o hb, hM b hb, hJ b hb, hP b hb]
    by_cases ht : (sS σ b).1 = 0
    · rw [ht]; trivial
    · have h7 := tl_at_lt h6 ht
      exact tl_at_kept h6 (ho b (by omega))
theorem T_get {idx ci k a : Nat} {ty : FieldType} {fin : Bool} (hd : decode mt.2.1 pc = .ok (.getfield idx, 3)) (hp : pc + 3 = n) (hf : tl_FF mt.1 idx ci k ty fin) (hs : sS σ a = (1, ci)) (kk : TW G mt R cells slots n L (tl_fv ty (sM σ a k) (sJ σ a k) (sP σ a k) :: st) σ Z) : TW G mt R cells slots pc L (.ref a :: st) σ Z := by
  subst hp
  intro p e s m args below meth c H locs ls hC hH hlo hl
  obtain ⟨hx, hb, -, -, -, -, hown, hts, hK⟩ := id hC
  obtain ⟨C, T, N, hc, hk, hin, hlink, hty, hnm, hty1, -, -⟩ := hf
  have hcell := hH.2.2.2.2 a
  unfold tl_cell at hcell
  rw [hs] at hcell
  obtain ⟨q, hq, cell, q1, q2, q3, q4⟩ := hcell
  cases hc.symm.trans hq
  obtain ⟨hS, hfc, kC, hkC, hkind⟩ := hK.1.1 ci _ hc
  obtain ⟨cf, kf, fi, f, hi, hsl⟩ := hS k hk
  refine W.getf hx hb hown (hts _ hlink) hi (u_facts hfc hkC (u_lays hts hin hk) hi).1 q1 (by rw [q3]; exact fun h => by cases h) (v := tl_fv ty (sM σ a k) (sJ σ a k) (sP σ a k)) ?_ rfl rfl hd (kk p e s m args below meth c H locs ls hC hH hlo hl)
  rw [hsl, q4 k hk]
  show some (tl_fv (tl_ty ci k) _ _ _) = _
  rw [hty1]
theorem T_getI {idx ci k a : Nat} {fin : Bool} (hd : decode mt.2.1 pc = .ok (.getfield idx, 3)) (hp : pc + 3 = n) (hf : tl_FF mt.1 idx ci k .int fin) (hs : sS σ a = (1, ci)) (kk : TW G mt R cells slots n L (.int (sM σ a k) :: st) σ Z) : TW G mt R cells slots pc L (.ref a :: st) σ Z := T_get hd hp hf hs kk
theorem T_getZ {idx ci k a : Nat} {fin : Bool} (hd : decode mt.2.1 pc = .ok (.getfield idx, 3)) (hp : pc + 3 = n) (hf : tl_FF mt.1 idx ci k .boolean fin) (hs : sS σ a = (1, ci)) (kk : TW G mt R cells slots n L (.int (sM σ a k) :: st) σ Z) : TW G mt R cells slots pc L (.ref a :: st) σ Z := T_get hd hp hf hs kk
theorem T_getJ {idx ci k a : Nat} {fin : Bool} (hd : decode mt.2.1 pc = .ok (.getfield idx, 3)) (hp : pc + 3 = n) (hf : tl_FF mt.1 idx ci k .long fin) (hs : sS σ a = (1, ci)) (kk : TW G mt R cells slots n L (.long (sJ σ a k) :: st) σ Z) : TW G mt R cells slots pc L (.ref a :: st) σ Z := T_get hd hp hf hs kk
theorem T_getA {idx ci k a r : Nat} {t : FieldType} {fin : Bool} (hd : decode mt.2.1 pc = .ok (.getfield idx, 3)) (hp : pc + 3 = n) (hf : tl_FF mt.1 idx ci k (.array t) fin) (hs : sS σ a = (1, ci)) (hr : sP σ a k = some r) (kk : TW G mt R cells slots n L (.ref r :: st) σ Z) : TW G mt R cells slots pc L (.ref a :: st) σ Z := T_get hd hp hf hs (by rw [hr]; exact kk)
theorem T_getO {idx ci k a r : Nat} {t : String} {fin : Bool} (hd : decode mt.2.1 pc = .ok (.getfield idx, 3)) (hp : pc + 3 = n) (hf : tl_FF mt.1 idx ci k (.object t) fin) (hs : sS σ a = (1, ci)) (hr : sP σ a k = some r) (kk : TW G mt R cells slots n L (.ref r :: st) σ Z) : TW G mt R cells slots pc L (.ref a :: st) σ Z := T_get hd hp hf hs (by rw [hr]; exact kk)
/-- putfield: the new state holds v there, and differs at a alone -/
theorem T_put {idx ci k a : Nat} {ty : FieldType} {fin : Bool} {v : Value} {σ' : tl_S} (hd : decode mt.2.1 pc = .ok (.putfield idx, 3)) (hp : pc + 3 = n) (hf : tl_FF mt.1 idx ci k ty fin) (hfi : fin = true → mt.2.2.2.2 = "<init>") (hs : sS σ a = (1, ci)) (hn : narrow ty v = v) (hfit : fits ty v = true) (hS' : sS σ' = sS σ) (hZ' : sZ σ' = sZ σ) (hM' : ∀ b, b ≠ a → sM σ' b = sM σ b) (hJ' : ∀ b, b ≠ a → sJ σ' b = sJ σ b) (hP' : ∀ b, b ≠ a → sP σ' b = sP σ b) (hv : tl_fv ty (sM σ' a k) (sJ σ' a k) (sP σ' a k) = v) (hv2 : ∀ j, j ≠ k → sM σ' a j = sM σ a j ∧ sJ σ' a j = sJ σ a j ∧ sP σ' a j = sP σ a j) (kk : TW G mt R cells slots n L st σ' Z) : TW G mt R cells slots pc L (v :: .ref a :: st) σ Z := by
  subst hp
  intro p e s m args below meth c H locs ls hC hH hlo hl
  obtain ⟨hx, hb, -, -, -, hname, hown, hts, hK⟩ := id hC
  obtain ⟨C, T, N, hc, hk, hin, hlink, hty, hnm, hty1, hfin, hdecl⟩ := hf
  have hcell := hH.2.2.2.2 a
  unfold tl_cell at hcell
  rw [hs] at hcell
  obtain ⟨q, hq, cell, q1, q2, q3, q4⟩ := hcell
  cases hc.symm.trans hq
  obtain ⟨hS, hfc, kC, hkC, hkind⟩ := hK.1.1 ci _ hc
  obtain ⟨cf, kf, fi, f, hi, hsl⟩ := hS k hk
  have hap : ∀ x y, x < N → y < N → x ≠ y → ((gD G).2 ci) x ≠ ((gD G).2 ci) y := va_apart (own := mt.1) (D := gD G) (cl := tl_cl) (tys := tl_tys G) hts hin (tl_ty ci) hty hnm hK.1 hc
  have hst := (u_facts hfc hkC (u_lays hts hin hk) hi).1
  have hdk : parseFieldDescriptor (T k).2.2.1 = some ty := by rw [hty k hk, hty1]
  have hown' : gB G ≤ a := tl_own hH (by rw [hs]; simp)
  have fini : ∀ (H' : Heap), H'[a]? = some (cell.setSlot f.slot v) → H'.size = H.size → (∀ q, q ≠ a → H'[q]? = H[q]?) → W p (gL G) e R s m args below meth c H' (locs ++ [⟨a, f.slot⟩]) cells slots (Z below args s) (F0 m (pc + 3) ls st) := by
    intro H' e1 e2 e3
    refine kk p e s m args below meth c H' _ ls hC ?_ ?_ hl
    · refine tl_H_upd hH e2 e3 hown' hS' hZ' hM' hJ' hP' ?_
      unfold tl_cell
      rw [hS', hs]
      refine ⟨(C, T, N), hc, cell.setSlot f.slot v, e1, q2, q3, fun j hj => ?_⟩
      rw [hsl]
      have h8 := t_set q4 hap hk v j hj
      rw [h8]
      by_cases hjk : j = k
      · subst hjk
        simp only [updV, if_true]
        rw [hty1, hv]
      · simp only [updV, if_neg hjk]
        obtain ⟨z1, z2, z3⟩ := hv2 j hjk
        rw [z1, z2, z3]
    · intro q hq
      rcases List.mem_append.mp hq with h9 | h9
      · exact hlo q h9
      · rw [List.mem_singleton.mp h9]
        exact hown'
  have hlay := hts _ (hin _ (u_in_lay hk))
  unfold u_lay at hlay
  cases fin with
  | false =>
    rw [if_neg (by rw [hfin]; decide)] at hlay
    have h6 := u_store hfc hkC hkind hlay hi hdk hn hfit
    exact W.putK hx hb (f := f) ⟨hown, hts _ hlink, ⟨_, _, _, hi⟩, hst⟩ (by rw [q2]; exact h6) q1 q3 (by rw [hsl]; exact k2_hasslot (q4 k hk)) rfl rfl hd fini
  | true =>
    rw [if_pos hfin] at hlay
    have hcf : m.cls = cf := by
      obtain ⟨_, _, c', _, _, _, -, -, hf', -, -, -, hown2, -⟩ := Cond.laysFinal_spec hlay
      have e1 : c' = cf := by have := hi.symm.trans hf'; simp at this; exact this.1.symm
      rw [hdecl rfl] at hown2
      rw [← e1]; exact Option.some.inj (hown.symm.trans hown2)
    have h6 := u_fits hfc hkC hkind (Or.inr hlay) hi hdk hn hfit
    exact W.putFinK hx hb hown (hts _ hlink) hi hst hcf (hname.trans (hfi rfl)) (by rw [q2]; exact h6) q1 q3 (by rw [hsl]; exact k2_hasslot (q4 k hk)) rfl rfl hd fini
theorem T_putI {idx ci k a : Nat} {fin : Bool} {x : Int32} (hd : decode mt.2.1 pc = .ok (.putfield idx, 3)) (hp : pc + 3 = n) (hf : tl_FF mt.1 idx ci k .int fin) (hfi : fin = true → mt.2.2.2.2 = "<init>") (hs : sS σ a = (1, ci)) (kk : TW G mt R cells slots n L st (sS σ, up2 (sM σ) a k x, sJ σ, sP σ, sZ σ) Z) : TW G mt R cells slots pc L (.int x :: .ref a :: st) σ Z :=
  T_put (σ' := (sS σ, up2 (sM σ) a k x, sJ σ, sP σ, sZ σ)) hd hp hf hfi hs rfl rfl rfl rfl (fun b hb => up2_o hb) (fun _ _ => rfl) (fun _ _ => rfl) (by show Value.int (up2 (sM σ) a k x a k) = _; rw [up2_s]) (fun j hj => ⟨up2_n hj, rfl, rfl⟩) kk
theorem T_putZ {idx ci k a : Nat} {fin : Bool} {x : Int32} (hd : decode mt.2.1 pc = .ok (.putfield idx, 3)) (hp : pc + 3 = n) (hf : tl_FF mt.1 idx ci k .boolean fin) (hfi : fin = true → mt.2.2.2.2 = "<init>") (hs : sS σ a = (1, ci)) (hx : x = 0 ∨ x = 1) (kk : TW G mt R cells slots n L st (sS σ, up2 (sM σ) a k x, sJ σ, sP σ, sZ σ) Z) : TW G mt R cells slots pc L (.int x :: .ref a :: st) σ Z :=
  T_put (σ' := (sS σ, up2 (sM σ) a k x, sJ σ, sP σ, sZ σ)) hd hp hf hfi hs (by rcases hx with rfl | rfl <;> rfl) (by rcases hx with rfl | rfl <;> rfl) rfl rfl (fun b hb => up2_o hb) (fun _ _ => rfl) (fun _ _ => rfl) (by show Value.int (up2 (sM σ) a k x a k) = _; rw [up2_s]) (fun j hj => ⟨up2_n hj, rfl, rfl⟩) kk
theorem T_putJ {idx ci k a : Nat} {fin : Bool} {x : Int64} (hd : decode mt.2.1 pc = .ok (.putfield idx, 3)) (hp : pc + 3 = n) (hf : tl_FF mt.1 idx ci k .long fin) (hfi : fin = true → mt.2.2.2.2 = "<init>") (hs : sS σ a = (1, ci)) (kk : TW G mt R cells slots n L st (sS σ, sM σ, up2 (sJ σ) a k x, sP σ, sZ σ) Z) : TW G mt R cells slots pc L (.long x :: .ref a :: st) σ Z :=
  T_put (σ' := (sS σ, sM σ, up2 (sJ σ) a k x, sP σ, sZ σ)) hd hp hf hfi hs rfl rfl rfl rfl (fun _ _ => rfl) (fun b hb => up2_o hb) (fun _ _ => rfl) (by show Value.long (up2 (sJ σ) a k x a k) = _; rw [up2_s]) (fun j hj => ⟨rfl, up2_n hj, rfl⟩) kk
theorem T_putA {idx ci k a x : Nat} {t : FieldType} {fin : Bool} (hd : decode mt.2.1 pc = .ok (.putfield idx, 3)) (hp : pc + 3 = n) (hf : tl_FF mt.1 idx ci k (.array t) fin) (hfi : fin = true → mt.2.2.2.2 = "<init>") (hs : sS σ a = (1, ci)) (kk : TW G mt R cells slots n L st (sS σ, sM σ, sJ σ, up2 (sP σ) a k (some x), sZ σ) Z) : TW G mt R cells slots pc L (.ref x :: .ref a :: st) σ Z :=
  T_put (σ' := (sS σ, sM σ, sJ σ, up2 (sP σ) a k (some x), sZ σ)) hd hp hf hfi hs rfl rfl rfl rfl (fun _ _ => rfl) (fun _ _ => rfl) (fun b hb => up2_o hb) (by show va_rf (up2 (sP σ) a k (some x) a k) = _; rw [up2_s]; rfl) (fun j hj => ⟨rfl, rfl, up2_n hj⟩) kk
theorem T_putO {idx ci k a x : Nat} {t : String} {fin : Bool} (hd : decode mt.2.1 pc = .ok (.putfield idx, 3)) (hp : pc + 3 = n) (hf : tl_FF mt.1 idx ci k (.object t) fin) (hfi : fin = true → mt.2.2.2.2 = "<init>") (hs : sS σ a = (1, ci)) (kk : TW G mt R cells slots n L st (sS σ, sM σ, sJ σ, up2 (sP σ) a k (some x), sZ σ) Z) : TW G mt R cells slots pc L (.ref x :: .ref a :: st) σ Z :=
  T_put (σ' := (sS σ, sM σ, sJ σ, up2 (sP σ) a k (some x), sZ σ)) hd hp hf hfi hs rfl rfl rfl rfl (fun _ _ => rfl) (fun _ _ => rfl) (fun b hb => up2_o hb) (by show va_rf (up2 (sP σ) a k (some x) a k) = _; rw [up2_s]; rfl) (fun j hj => ⟨rfl, rfl, up2_n hj⟩) kk
theorem tl_in {i N : Nat} (hi : i < N) (hN : N < 2 ^ 31) : ¬ (nI i < 0 ∨ N ≤ (nI i).toNatClampNeg) := nI_in hi hN
/-- array reads and stores, by a number i below the length -/
theorem T_iald {j : Int32} {a N i : Nat} (hd : decode mt.2.1 pc = .ok (.iaload, 1)) (hp : pc + 1 = n) (hs : sS σ a = (2, N)) (hj : j = nI i) (hi : i < N) (hN : N < 2 ^ 31) (kk : TW G mt R cells slots n L (.int (sM σ a i) :: st) σ Z) : TW G mt R cells slots pc L (.int j :: .ref a :: st) σ Z := by
  subst hp; subst hj
  intro p e s m args below meth c H locs ls hC hH hlo hl
  have hcell := hH.2.2.2.2 a
  unfold tl_cell at hcell
  rw [hs] at hcell
  have hK := hC.2.2.2.2.2.2.2.2
  refine W.iald (v := .int (sM σ a i)) hC.1 hC.2.1 hcell ((hK.1.2 0 (gA G 0, .int) rfl).1 N (fun j => .int (sM σ a j))) (fun q => by cases q) (by rw [arrV_size]; exact tl_in hi hN) (by rw [nI_clamp (by omega), arrV_read _ _ hi]) rfl rfl hd (kk p e s m args below meth c H locs ls hC hH hlo hl)
theorem T_zald {j : Int32} {a N i : Nat} (hd : decode mt.2.1 pc = .ok (.baload, 1)) (hp : pc + 1 = n) (hs : sS σ a = (3, N)) (hj : j = nI i) (hi : i < N) (hN : N < 2 ^ 31) (kk : TW G mt R cells slots n L (.int (sM σ a i) :: st) σ Z) : TW G mt R cells slots pc L (.int j :: .ref a :: st) σ Z := by
  subst hp; subst hj
  intro p e s m args below meth c H locs ls hC hH hlo hl
  have hcell := hH.2.2.2.2 a
  unfold tl_cell at hcell
  rw [hs] at hcell
  have hK := hC.2.2.2.2.2.2.2.2
  refine W.zald (v := .int (sM σ a i)) hC.1 hC.2.1 hcell ((hK.1.2 1 (gA G 1, .boolean) rfl).1 N (fun j => .int (sM σ a j))) (fun q => by cases q) (by rw [arrV_size]; exact tl_in hi hN) (by rw [nI_clamp (by omega), arrV_read _ _ hi]) rfl rfl hd (kk p e s m args below meth c H locs ls hC hH hlo hl)
theorem T_lald {j : Int32} {a N i : Nat} (hd : decode mt.2.1 pc = .ok (.laload, 1)) (hp : pc + 1 = n) (hs : sS σ a = (4, N)) (hj : j = nI i) (hi : i < N) (hN : N < 2 ^ 31) (kk : TW G mt R cells slots n L (.long (sJ σ a i) :: st) σ Z) : TW G mt R cells slots pc L (.int j :: .ref a :: st) σ Z := by
  subst hp; subst hj
  intro p e s m args below meth c H locs ls hC hH hlo hl
  have hcell := hH.2.2.2.2 a
  unfold tl_cell at hcell
  rw [hs] at hcell
  have hK := hC.2.2.2.2.2.2.2.2
  refine W.lald (v := .long (sJ σ a i)) hC.1 hC.2.1 hcell ((hK.1.2 2 (gA G 2, .long) rfl).1 N (fun j => .long (sJ σ a j))) (fun q => by cases q) (by rw [arrV_size]; exact tl_in hi hN) (by rw [nI_clamp (by omega), arrV_read _ _ hi]) rfl rfl hd (kk p e s m args below meth c H locs ls hC hH hlo hl)
theorem T_aald {j : Int32} {a N i r : Nat} (hd : decode mt.2.1 pc = .ok (.aaload, 1)) (hp : pc + 1 = n) (hs : sS σ a = (5, N)) (hj : j = nI i) (hi : i < N) (hN : N < 2 ^ 31) (hr : sP σ a i = some r) (kk : TW G mt R cells slots n L (.ref r :: st) σ Z) : TW G mt R cells slots pc L (.int j :: .ref a :: st) σ Z := by
  subst hp; subst hj
  intro p e s m args below meth c H locs ls hC hH hlo hl
  have hcell := hH.2.2.2.2 a
  unfold tl_cell at hcell
  rw [hs] at hcell
  have hK := hC.2.2.2.2.2.2.2.2
  refine W.aald (v := .ref r) (ty := .object RX0) hC.1 hC.2.1 hcell ((hK.1.2 3 (gA G 3, .object RX0) rfl).1 N (fun j => va_rf (sP σ a j))) rfl (fun q => by cases q) (by rw [arrV_size]; exact tl_in hi hN) (by rw [nI_clamp (by omega), arrV_read _ _ hi, hr]; rfl) rfl rfl hd (kk p e s m args below meth c H locs ls hC hH hlo hl)
theorem T_ialdR {j : Int32} {q i : Nat} (hd : decode mt.2.1 pc = .ok (.iaload, 1)) (hp : pc + 1 = n) (hq : q < 3) (hj : j = nI i) (hi : i < (gR G q).2.1) (hN : (gR G q).2.1 < 2 ^ 31) (kk : TW G mt R cells slots n L (.int ((gR G q).2.2 i) :: st) σ Z) : TW G mt R cells slots pc L (.int j :: .ref (gR G q).1 :: st) σ Z := by
  subst hp; subst hj
  intro p e s m args below meth c H locs ls hC hH hlo hl
  obtain ⟨⟨scr, h1, h2, h3, h4, h5⟩, hB⟩ := hC.2.2.2.2.2.2.2.2.2.1 q hq
  exact W.iald (v := .int ((gR G q).2.2 i)) hC.1 hC.2.1 (by rw [hH.2.2.1 _ hB]; exact h1) h2 h3 (by rw [h4]; exact tl_in hi hN) (by rw [nI_clamp (by omega)]; exact h5 _ hi) rfl rfl hd (kk p e s m args below meth c H locs ls hC hH hlo hl)
theorem T_alen {a N : Nat} (hd : decode mt.2.1 pc = .ok (.arraylength, 1)) (hp : pc + 1 = n) (hs : sS σ a = (2, N)) (kk : TW G mt R cells slots n L (.int (nI N) :: st) σ Z) : TW G mt R cells slots pc L (.ref a :: st) σ Z := by
  subst hp
  intro p e s m args below meth c H locs ls hC hH hlo hl
  have hcell := hH.2.2.2.2 a
  unfold tl_cell at hcell
  rw [hs] at hcell
  have hK := hC.2.2.2.2.2.2.2.2
  exact W.alen (n := nI N) hC.1 hC.2.1 hcell ((hK.1.2 0 (gA G 0, .int) rfl).1 N (fun j => .int (sM σ a j))) (by rw [arrV_size] <;> rfl) rfl rfl hd (kk p e s m args below meth c H locs ls hC hH hlo hl)
theorem T_alenR {q : Nat} (hd : decode mt.2.1 pc = .ok (.arraylength, 1)) (hp : pc + 1 = n) (hq : q < 3) (kk : TW G mt R cells slots n L (.int (nI (gR G q).2.1) :: st) σ Z) : TW G mt R cells slots pc L (.ref (gR G q).1 :: st) σ Z := by
  subst hp
  intro p e s m args below meth c H locs ls hC hH hlo hl
  obtain ⟨⟨scr, h1, h2, h3, h4, h5⟩, hB⟩ := hC.2.2.2.2.2.2.2.2.2.1 q hq
  exact W.alen (n := nI (gR G q).2.1) hC.1 hC.2.1 (by rw [hH.2.2.1 _ hB]; exact h1) h2 (by rw [h4] <;> rfl) rfl rfl hd (kk p e s m args below meth c H locs ls hC hH hlo hl)
theorem tl_lo {locs : List Loc} {a j : Nat} (h : ∀ q ∈ locs, gB G ≤ q.base) (ha : gB G ≤ a) : ∀ q ∈ locs ++ [⟨a, j⟩], gB G ≤ q.base := by
  intro q hq
  rcases List.mem_append.mp hq with h9 | h9
  · exact h q h9
  · rw [List.mem_singleton.mp h9]
    exact ha
theorem tl_updM {f : Nat → Nat → Int32} {a i : Nat} {x : Int32} : updV (fun j => Value.int (f a j)) i (.int x) = fun j => Value.int (up2 f a i x a j) := by
  funext q
  by_cases hq : q = i
  · subst hq; simp [updV, up2]
  · simp [updV, up2, hq]
theorem tl_updJ {f : Nat → Nat → Int64} {a i : Nat} {x : Int64} : updV (fun j => Value.long (f a j)) i (.long x) = fun j => Value.long (up2 f a i x a j) := by
  funext q
  by_cases hq : q = i
  · subst hq; simp [updV, up2]
  · simp [updV, up2, hq]
theorem tl_updP {f : Nat → Nat → Option Nat} {a i x : Nat} : updV (fun j => va_rf (f a j)) i (.ref x) = fun j => va_rf (up2 f a i (some x) a j) := by
  funext q
  by_cases hq : q = i
  · subst hq; simp [updV, up2, va_rf]
  · simp [updV, up2, hq]
theorem T_iast {j x : Int32} {a N i : Nat} (hd : decode mt.2.1 pc = .ok (.iastore, 1)) (hp : pc + 1 = n) (hs : sS σ a = (2, N)) (hj : j = nI i) (hi : i < N) (hN : N < 2 ^ 31) (kk : TW G mt R cells slots n L st (sS σ, up2 (sM σ) a i x, sJ σ, sP σ, sZ σ) Z) : TW G mt R cells slots pc L (.int x :: .int j :: .ref a :: st) σ Z := by
  subst hp; subst hj
  intro p e s m args below meth c H locs ls hC hH hlo hl
  have hcell := hH.2.2.2.2 a
  unfold tl_cell at hcell
  rw [hs] at hcell
  have hK := hC.2.2.2.2.2.2.2.2
  have hB : gB G ≤ a := tl_own hH (by rw [hs]; simp)
  refine W.iast hC.1 hC.2.1 hcell ((hK.1.2 0 (gA G 0, .int) rfl).1 N (fun j => .int (sM σ a j))) (fun q => by cases q) (by rw [arrV_size]; exact tl_in hi hN) rfl rfl hd fun H1 e1 z oq => ?_
  refine kk p e s m args below meth c H1 _ ls hC (tl_H_upd hH z oq hB rfl rfl (fun b hb => up2_o hb) (fun _ _ => rfl) (fun _ _ => rfl) ?_) (tl_lo hlo hB) hl
  unfold tl_cell
  show tl_at G (sS σ a).1 (sS σ a).2 a _ _ _ H1
  rw [hs]
  show H1[a]? = some (arrV _ _ _)
  rw [e1, arrV_store, nI_clamp (by omega), tl_updM]
theorem T_zast {j x : Int32} {a N i : Nat} (hd : decode mt.2.1 pc = .ok (.bastore, 1)) (hp : pc + 1 = n) (hs : sS σ a = (3, N)) (hj : j = nI i) (hi : i < N) (hN : N < 2 ^ 31) (hx : x = 0 ∨ x = 1) (kk : TW G mt R cells slots n L st (sS σ, up2 (sM σ) a i x, sJ σ, sP σ, sZ σ) Z) : TW G mt R cells slots pc L (.int x :: .int j :: .ref a :: st) σ Z := by
  subst hp; subst hj
  intro p e s m args below meth c H locs ls hC hH hlo hl
  have hcell := hH.2.2.2.2 a
  unfold tl_cell at hcell
  rw [hs] at hcell
  have hK := hC.2.2.2.2.2.2.2.2
  have hB : gB G ≤ a := tl_own hH (by rw [hs]; simp)
  have hnx : narrow .boolean (.int x) = .int x := by rcases hx with rfl | rfl <;> rfl
  refine W.zast hC.1 hC.2.1 hcell ((hK.1.2 1 (gA G 1, .boolean) rfl).1 N (fun j => .int (sM σ a j))) (fun q => by cases q) (by rw [arrV_size]; exact tl_in hi hN) rfl rfl hd fun H1 e1 z oq => ?_
  refine kk p e s m args below meth c H1 _ ls hC (tl_H_upd hH z oq hB rfl rfl (fun b hb => up2_o hb) (fun _ _ => rfl) (fun _ _ => rfl) ?_) (tl_lo hlo hB) hl
  unfold tl_cell
  show tl_at G (sS σ a).1 (sS σ a).2 a _ _ _ H1
  rw [hs]
  show H1[a]? = some (arrV _ _ _)
  rw [e1, hnx, arrV_store, nI_clamp (by omega), tl_updM]
theorem T_last {j : Int32} {x : Int64} {a N i : Nat} (hd : decode mt.2.1 pc = .ok (.lastore, 1)) (hp : pc + 1 = n) (hs : sS σ a = (4, N)) (hj : j = nI i) (hi : i < N) (hN : N < 2 ^ 31) (kk : TW G mt R cells slots n L st (sS σ, sM σ, up2 (sJ σ) a i x, sP σ, sZ σ) Z) : TW G mt R cells slots pc L (.long x :: .int j :: .ref a :: st) σ Z := by
  subst hp; subst hj
  intro p e s m args below meth c H locs ls hC hH hlo hl
  have hcell := hH.2.2.2.2 a
  unfold tl_cell at hcell
  rw [hs] at hcell
  have hK := hC.2.2.2.2.2.2.2.2
  have hB : gB G ≤ a := tl_own hH (by rw [hs]; simp)
  refine W.last hC.1 hC.2.1 hcell ((hK.1.2 2 (gA G 2, .long) rfl).1 N (fun j => .long (sJ σ a j))) (fun q => by cases q) (by rw [arrV_size]; exact tl_in hi hN) rfl rfl hd fun H1 e1 z oq => ?_
  refine kk p e s m args below meth c H1 _ ls hC (tl_H_upd hH z oq hB rfl rfl (fun _ _ => rfl) (fun b hb => up2_o hb) (fun _ _ => rfl) ?_) (tl_lo hlo hB) hl
  unfold tl_cell
  show tl_at G (sS σ a).1 (sS σ a).2 a _ _ _ H1
  rw [hs]
  show H1[a]? = some (arrV _ _ _)
  rw [e1, arrV_store, nI_clamp (by omega), tl_updJ]
theorem T_aast {j : Int32} {a N i v : Nat} (hd : decode mt.2.1 pc = .ok (.aastore, 1)) (hp : pc + 1 = n) (hs : sS σ a = (5, N)) (hv : sS σ v = (1, 0)) (hj : j = nI i) (hi : i < N) (hN : N < 2 ^ 31) (kk : TW G mt R cells slots n L st (sS σ, sM σ, sJ σ, up2 (sP σ) a i (some v), sZ σ) Z) : TW G mt R cells slots pc L (.ref v :: .int j :: .ref a :: st) σ Z := by
  subst hp; subst hj
  intro p e s m args below meth c H locs ls hC hH hlo hl
  have hcell := hH.2.2.2.2 a
  unfold tl_cell at hcell
  rw [hs] at hcell
  have hcv := hH.2.2.2.2 v
  unfold tl_cell at hcv
  rw [hv] at hcv
  obtain ⟨q', hq', cellV, g1, g2, g3, -⟩ := hcv
  have hK := hC.2.2.2.2.2.2.2.2
  have hB : gB G ≤ a := tl_own hH (by rw [hs]; simp)
  have hcls := (hK.1.1 0 _ hq').2
  cases (show tl_cl[0]? = some (RX0, TX0, 6) from rfl).symm.trans hq'
  obtain ⟨kA, comp, k1, k2, k3, -⟩ := (hK.1.2 3 (gA G 3, .object RX0) rfl).2
  have hcomp : comp = (gD G).1 0 := Option.some.inj (k3.symm.trans hcls.1)
  subst hcomp
  obtain ⟨kC, hkC, -⟩ := hcls.2
  refine W.aast hC.1 hC.2.1 hcell (fun q h => by cases h) (fun h => by cases h) k1 k2 rfl hkC ⟨nI_pos (by omega), by rw [arrV_size, nI_clamp (by omega)]; exact hi⟩ g1 (fun q h => by rw [g3] at h; cases h) (by rw [g2]; exact hkC) (by rw [g2]; exact va_assign hcls) rfl rfl hd fun H1 e1 z oq => ?_
  refine kk p e s m args below meth c H1 _ ls hC (tl_H_upd hH z oq hB rfl rfl (fun _ _ => rfl) (fun _ _ => rfl) (fun b hb => up2_o hb) ?_) (tl_lo hlo hB) hl
  unfold tl_cell
  show tl_at G (sS σ a).1 (sS σ a).2 a _ _ _ H1
  rw [hs]
  show H1[a]? = some (arrV _ _ _)
  rw [e1, arrV_store, nI_clamp (by omega), tl_updP]
theorem T_gets {idx i : Nat} (hd : decode mt.2.1 pc = .ok (.getstatic idx, 3)) (hp : pc + 3 = n) (h1 : 1 ≤ i) (h2 : i < 3) (hw : Cond.fieldLink mt.1 idx (tl_sf i).1 (tl_sf i).2.1 (tl_sf i).2.2 ∈ tl_W) (kk : TW G mt R cells slots n L (.ref (gR G i).1 :: st) σ Z) : TW G mt R cells slots pc L st σ Z := by
  subst hp
  intro p e s m args below meth c H locs ls hC hH hlo hl
  obtain ⟨cf, kf, fi, f, a, cell, z1, z2, z3, z4, z5, z6, z7, z8⟩ := hC.2.2.2.2.2.2.2.2.2.2.1 i h1 h2
  exact W.gets hC.1 hC.2.1 hC.2.2.2.2.2.2.1 (hC.2.2.2.2.2.2.2.1 _ hw) z1 z2 z3 z4 (by rw [hH.2.2.1 a (Nat.not_le.mp z8)]; exact z5) (fun e => by rw [e] at z6; cases z6) z7 rfl hd (kk p e s m args below meth c H locs ls hC hH hlo hl)
theorem T_getsN {idx i : Nat} (hd : decode mt.2.1 pc = .ok (.getstatic idx, 3)) (hp : pc + 3 = n) (h1 : 1 ≤ i) (h2 : i < 3) (hm : mt.1 = RX0) (hi : idx = tl_si i) (kk : TW G mt R cells slots n L (.ref (gR G i).1 :: st) σ Z) : TW G mt R cells slots pc L st σ Z := by
  subst hp; subst hi
  intro p e s m args below meth c H locs ls hC hH hlo hl
  obtain ⟨cf, kf, fi, f, a, cell, z1, z2, z3, z4, z5, z6, z7, z8⟩ := hC.2.2.2.2.2.2.2.2.2.2.1 i h1 h2
  have hN := hC.2.2.2.2.2.2.2.2.2.2.2.2
  have hown := hC.2.2.2.2.2.2.1
  rw [hm] at hown
  rcases (show i = 1 ∨ i = 2 by omega) with rfl | rfl
  · exact va_WgetsN hC.1 hC.2.1 hown (va_Nw.use rfl hN.1) z1 z2 z3 z4 (by rw [hH.2.2.1 a (Nat.not_le.mp z8)]; exact z5) (fun e => by rw [e] at z6; cases z6) z7 rfl hd (kk p e s m args below meth c H locs ls hC hH hlo hl)
  · exact va_WgetsN hC.1 hC.2.1 hown (va_Nw.use rfl hN.2) z1 z2 z3 z4 (by rw [hH.2.2.1 a (Nat.not_le.mp z8)]; exact z5) (fun e => by rw [e] at z6; cases z6) z7 rfl hd (kk p e s m args below meth c H locs ls hC hH hlo hl)
end TM
end
section
/-! ===== T-LAYER: making, calls, returns, contracts ===== -/
section TC
variable {G : tl_G} {mt : tl_M} {R : Room} {cells slots pc n : Nat} {L : List (Option Value)} {st : List Value} {σ : tl_S} {Z : tl_Z}
def zr {α : Type} (M : Nat → Nat → α) (z : Nat) (v : α) : Nat → Nat → α := fun a j => if a = z then v else M a j
theorem zr_o {α : Type} {M : Nat → Nat → α} {z b : Nat} {v : α} (h : b ≠ z) : zr M z v b = M b := by
  funext j
  simp [zr, h]
theorem zr_s {α : Type} {M : Nat → Nat → α} {z : Nat} {v : α} : zr M z v z = fun _ => v := by
  funext j
  simp [zr]
/-- the state with a new cell of shape (t, k) -/
def tl_nw (σ : tl_S) (t k : Nat) : tl_S := (up1 (sS σ) (sZ σ) (t, k), zr (sM σ) (sZ σ) 0, zr (sJ σ) (sZ σ) 0, zr (sP σ) (sZ σ) none, sZ σ + 1)
theorem tl_H_nw {H H' : Heap} {t k : Nat} (h : tl_H G σ H) (hz : H'.size = sZ σ + 1) (ho : ∀ q, q < sZ σ → H'[q]? = H[q]?) (hc : tl_at G t k (sZ σ) (fun _ => 0) (fun _ => 0) (fun _ => none) H') : tl_H G (tl_nw σ t k) H' := by
  refine tl_H_new (t0 := t) (n0 := k) h hz ho rfl rfl (fun b hb => zr_o hb) (fun b hb => zr_o hb) (fun b hb => zr_o hb) ?_
  show tl_at G t k (sZ σ) (zr (sM σ) (sZ σ) 0 (sZ σ)) (zr (sJ σ) (sZ σ) 0 (sZ σ)) (zr (sP σ) (sZ σ) none (sZ σ)) H'
  rw [zr_s, zr_s, zr_s]
  exact hc
theorem T_newI {N : Nat} {j : Int32} (hd : decode mt.2.1 pc = .ok (.newarray .int, 2)) (hp : pc + 2 = n) (hw : Cond.arrayClass .int ∈ tl_W) (hj : j = nI N) (hN : N ≤ 100000) (hc : cells + 1 ≤ R.cells) (hs : slots + N ≤ R.slots) (kk : TW G mt R (cells + 1) (slots + N) n L (.ref (sZ σ) :: st) (tl_nw σ 2 N) Z) : TW G mt R cells slots pc L (.int j :: st) σ Z := by
  subst hp; subst hj
  intro p e s m args below meth c H locs ls hC hH hlo hl
  refine va_newaK (atype := .int) hC.1 hC.2.1 (hC.2.2.2.2.2.2.2.1 _ hw) rfl hd rfl (nI_pos (by omega)) (nI_clamp (by omega)) (by show N * 4 ≤ _; omega) hc hs hH.1 fun H1 cA e1 z1 o1 hAr hNm => ?_
  have hA : gA G 0 = cA := Option.some.inj (((hC.2.2.2.2.2.2.2.2.1.2 0 (gA G 0, .int) rfl).2).symm.trans hNm)
  refine kk p e s m args below meth c H1 _ ls hC (tl_H_nw hH z1 o1 ?_) hlo hl
  show H1[sZ σ]? = some (arrV (gA G 0) N _)
  rw [hA]
  exact e1
theorem T_newZ {N : Nat} {j : Int32} (hd : decode mt.2.1 pc = .ok (.newarray .boolean, 2)) (hp : pc + 2 = n) (hw : Cond.arrayClass .boolean ∈ tl_W) (hj : j = nI N) (hN : N ≤ 100000) (hc : cells + 1 ≤ R.cells) (hs : slots + N ≤ R.slots) (kk : TW G mt R (cells + 1) (slots + N) n L (.ref (sZ σ) :: st) (tl_nw σ 3 N) Z) : TW G mt R cells slots pc L (.int j :: st) σ Z := by
  subst hp; subst hj
  intro p e s m args below meth c H locs ls hC hH hlo hl
  refine va_newaK (atype := .boolean) hC.1 hC.2.1 (hC.2.2.2.2.2.2.2.1 _ hw) rfl hd rfl (nI_pos (by omega)) (nI_clamp (by omega)) (by show N * 1 ≤ _; omega) hc hs hH.1 fun H1 cA e1 z1 o1 hAr hNm => ?_
  have hA : gA G 1 = cA := Option.some.inj (((hC.2.2.2.2.2.2.2.2.1.2 1 (gA G 1, .boolean) rfl).2).symm.trans hNm)
  refine kk p e s m args below meth c H1 _ ls hC (tl_H_nw hH z1 o1 ?_) hlo hl
  show H1[sZ σ]? = some (arrV (gA G 1) N _)
  rw [hA]
  exact e1
theorem T_newJ {N : Nat} {j : Int32} (hd : decode mt.2.1 pc = .ok (.newarray .long, 2)) (hp : pc + 2 = n) (hw : Cond.arrayClass .long ∈ tl_W) (hj : j = nI N) (hN : N ≤ 100000) (hc : cells + 1 ≤ R.cells) (hs : slots + N ≤ R.slots) (kk : TW G mt R (cells + 1) (slots + N) n L (.ref (sZ σ) :: st) (tl_nw σ 4 N) Z) : TW G mt R cells slots pc L (.int j :: st) σ Z := by
  subst hp; subst hj
  intro p e s m args below meth c H locs ls hC hH hlo hl
  refine va_newaK (atype := .long) hC.1 hC.2.1 (hC.2.2.2.2.2.2.2.1 _ hw) rfl hd rfl (nI_pos (by omega)) (nI_clamp (by omega)) (by show N * 8 ≤ _; omega) hc hs hH.1 fun H1 cA e1 z1 o1 hAr hNm => ?_
  have hA : gA G 2 = cA := Option.some.inj (((hC.2.2.2.2.2.2.2.2.1.2 2 (gA G 2, .long) rfl).2).symm.trans hNm)
  refine kk p e s m args below meth c H1 _ ls hC (tl_H_nw hH z1 o1 ?_) hlo hl
  show H1[sZ σ]? = some (arrV (gA G 2) N _)
  rw [hA]
  exact e1
theorem T_anew {N idx : Nat} {j : Int32} (hd : decode mt.2.1 pc = .ok (.anewarray idx, 3)) (hp : pc + 3 = n) (hw : Cond.classLink mt.1 idx RX0 ∈ tl_W) (hj : j = nI N) (hN : N ≤ 100000) (hc : cells + 1 ≤ R.cells) (hs : slots + N ≤ R.slots) (kk : TW G mt R (cells + 1) (slots + N) n L (.ref (sZ σ) :: st) (tl_nw σ 5 N) Z) : TW G mt R cells slots pc L (.int j :: st) σ Z := by
  subst hp; subst hj
  intro p e s m args below meth c H locs ls hC hH hlo hl
  have hcl : (nI N).toNatClampNeg = N := nI_clamp (by omega)
  refine W.anew hC.1 hC.2.1 hC.2.2.2.2.2.2.1 (hC.2.2.2.2.2.2.2.1 _ hw) (va_AO.use hC.2.2.2.2.2.2.2.2.2.2.2.1) rfl hd rfl (nI_pos (by omega)) (by rw [hcl]; omega) hc (by rw [hcl]; exact hs) fun cA kA comp h1 h2 h3 h4 => ?_
  rw [hcl, arrV_new, hH.1]
  obtain ⟨kA', comp', k1, k2, k3, k4⟩ := (hC.2.2.2.2.2.2.2.2.1.2 3 (gA G 3, .object RX0) rfl).2
  have hA : gA G 3 = cA := Option.some.inj (k4.symm.trans h1)
  refine kk p e s m args below meth c _ _ ls hC (tl_H_nw hH (by rw [Array.size_push, hH.1]) (fun q hq => ?_) ?_) hlo hl
  · rw [Array.getElem?_push, if_neg (by rw [hH.1]; omega)]
  · show (H.push _)[sZ σ]? = some (arrV (gA G 3) N _)
    rw [hA, ← hH.1]
    simp [va_rf]
/-- what is needed of a class to make an object of it -/
def tl_CN (own : String) (idx ci : Nat) (N : Nat) : Prop := ∃ (C : String) (T : u_T), tl_cl[ci]? = some (C, T, N) ∧ (∀ w ∈ u_ws C T N, w ∈ tl_W) ∧ Cond.classLink own idx C ∈ tl_W ∧ Cond.instantiable C N ∈ tl_W ∧ Cond.initialized C ∈ tl_W ∧ (∀ j, j < N → parseFieldDescriptor (T j).2.2.1 = some (tl_ty ci j)) ∧ ∀ j, j < N → defaultValue (tl_ty ci j) = tl_fv (tl_ty ci j) 0 0 none
theorem T_new {idx ci N : Nat} (hd : decode mt.2.1 pc = .ok (.new idx, 3)) (hp : pc + 3 = n) (hn : tl_CN mt.1 idx ci N) (hc : cells + 1 ≤ R.cells) (hs : slots + N ≤ R.slots) (kk : TW G mt R (cells + 1) (slots + N) n L (.ref (sZ σ) :: st) (tl_nw σ 1 ci) Z) : TW G mt R cells slots pc L st σ Z := by
  subst hp
  intro p e s m args below meth c H locs ls hC hH hlo hl
  obtain ⟨hx, hb, -, -, -, -, hown, hts, hK⟩ := id hC
  obtain ⟨C, T, hq, hin, hcl, hinst, hini, hty, hdf⟩ := hn
  have hKn := hK.1.1 ci _ hq
  refine W.newcK hx hb hown (hts _ hcl) (hts _ hinst) (hts _ hini) rfl hd hc hs hKn.2.1 hH.1 fun H1 kC hkC e1 z1 o1 => ?_
  refine kk p e s m args below meth c H1 _ ls hC (tl_H_nw hH z1 o1 ?_) hlo hl
  exact ⟨(C, T, N), hq, (u_born (tl_ty ci) hts hin hKn hkC e1 hty).to (fun j hj => hdf j hj)⟩
theorem T_objI {idx a : Nat} (hd : decode mt.2.1 pc = .ok (.invokespecial idx, 3)) (hp : pc + 3 = n) (hw : Cond.methodLink mt.1 idx objectInit ∈ tl_W) (hw2 : Cond.instanceMethod objectInit ∈ tl_W) (hw3 : Cond.code objectInit ⟨#[0xb1]⟩ 1 none ∈ tl_W) (hf : 1 ≤ R.frames) (hlo' : 20 ≤ R.locals) (hst : (st.map fun v => v.category).sum ≤ 8) (kk : TW G mt R cells slots n L st σ Z) : TW G mt R cells slots pc L (.ref a :: st) σ Z := by
  subst hp
  intro p e s m args below meth c H locs ls hC hH hlo hl
  refine W.objInit hC.1 hC.2.1 hC.2.2.2.2.2.2.1 (hC.2.2.2.2.2.2.2.1 _ hw) (hC.2.2.2.2.2.2.2.1 _ hw2) (hC.2.2.2.2.2.2.2.1 _ hw3) rfl (by rw [hC.2.2.1]; exact hl.1) rfl hd hf ?_ (kk p e s m args below meth c H locs ls hC hH hlo hl)
  have h1 := lv_room (m := m) (pc := pc) (ls := ls) (rest := .ref a :: st) hst
  omega
def tl_rm (d mc ms : Nat) : Room := { frames := d, cells := mc, slots := ms, locals := 40 * d }
/-- a method's end -/
def tl_Q (G : tl_G) (Q : Option Value → tl_S → Prop) : Array Value → State → Outcome → State → Prop := fun _ _ o t => ∃ (v : Option Value) (σ' : tl_S), o = .returned v ∧ Q v σ' ∧ tl_K G t ∧ tl_H G σ' t.heap
def ZM (G : tl_G) (Q : Option Value → tl_S → Prop) (mc ms : Nat) : tl_Z := fun below args s => MQ below (tl_Q G Q) args s mc ms (fun q => gB G ≤ q)
/-- A METHOD'S CONTRACT -/
def CT (G : tl_G) (y : MethodName) (mt : tl_M) (d mc ms : Nat) (av : List Value) (σ : tl_S) (Q : Option Value → tl_S → Prop) : Prop :=
  Met (gL G) y (Cond.code y mt.2.1 mt.2.2.1 mt.2.2.2.1 :: tl_W) (tl_rm d mc ms) (va_Pc av (fun U => tl_K G U ∧ tl_H G σ U.heap)) (tl_Q G Q) mc ms (fun q => gB G ≤ q)
theorem T_iret {v : Int32} {Q : Option Value → tl_S → Prop} (hd : decode mt.2.1 pc = .ok (.ireturn, 1)) (hr : mt.2.2.2.1 = some .int) (hQ : Q (some (.int v)) σ) : TW G mt R cells slots pc L [.int v] σ (ZM G Q cells slots) := by
  intro p e s m args below meth c H locs ls hC hH hlo hl
  exact W.iret hC.1 hC.2.1 (hC.2.2.2.1.trans hr) (fun t ht hW => ⟨_, σ, rfl, hQ, tl_K_moved hW hC.2.2.2.2.2.2.2.2, by rw [ht]; exact hH⟩) hlo hd hC.2.2.2.2.1
theorem T_zret {v : Int32} {Q : Option Value → tl_S → Prop} (hd : decode mt.2.1 pc = .ok (.ireturn, 1)) (hr : mt.2.2.2.1 = some .boolean) (hv : v = 0 ∨ v = 1) (hQ : Q (some (.int v)) σ) : TW G mt R cells slots pc L [.int v] σ (ZM G Q cells slots) := by
  intro p e s m args below meth c H locs ls hC hH hlo hl
  exact W.zret hC.1 hC.2.1 (hC.2.2.2.1.trans hr) (by rcases hv with rfl | rfl <;> rfl) (fun t ht hW => ⟨_, σ, rfl, hQ, tl_K_moved hW hC.2.2.2.2.2.2.2.2, by rw [ht]; exact hH⟩) hlo hd hC.2.2.2.2.1
theorem T_lret {v : Int64} {Q : Option Value → tl_S → Prop} (hd : decode mt.2.1 pc = .ok (.lreturn, 1)) (hr : mt.2.2.2.1 = some .long) (hQ : Q (some (.long v)) σ) : TW G mt R cells slots pc L [.long v] σ (ZM G Q cells slots) := by
  intro p e s m args below meth c H locs ls hC hH hlo hl
  exact W.lret hC.1 hC.2.1 (hC.2.2.2.1.trans hr) (fun t ht hW => ⟨_, σ, rfl, hQ, tl_K_moved hW hC.2.2.2.2.2.2.2.2, by rw [ht]; exact hH⟩) hlo hd hC.2.2.2.2.1
theorem T_vret {Q : Option Value → tl_S → Prop} (hd : decode mt.2.1 pc = .ok (.return_, 1)) (hr : mt.2.2.2.1 = none) (hQ : Q none σ) : TW G mt R cells slots pc L [] σ (ZM G Q cells slots) := by
  intro p e s m args below meth c H locs ls hC hH hlo hl
  exact W.vret hC.1 hC.2.1 (hC.2.2.2.1.trans hr) (fun t ht hW => ⟨_, σ, rfl, hQ, tl_K_moved hW hC.2.2.2.2.2.2.2.2, by rw [ht]; exact hH⟩) hlo hd hC.2.2.2.2.1
/-- the locals at a method's entry -/
def tl_args : List Value → List (Option Value)
  | [] => []
  | v :: vs => if v.category = 2 then some v :: none :: tl_args vs else some v :: tl_args vs
theorem tl_args_in : ∀ (vs : List Value) (k i : Nat) (v : Value), (tl_args vs)[i]? = some (some v) → (k + i, v) ∈ lv_args k vs
  | [], k, i, v, h => by simp [tl_args] at h
  | w :: vs, k, i, v, h => by
    unfold tl_args at h
    unfold lv_args
    by_cases hw : w.category = 2
    · rw [if_pos hw] at h ⊢
      match i, h with
      | 0, h => simp at h; subst h; exact List.mem_cons_self
      | 1, h => simp at h
      | i + 2, h =>
        rw [List.getElem?_cons_succ, List.getElem?_cons_succ] at h
        have h1 := tl_args_in vs (k + 2) i v h
        rw [show k + (i + 2) = k + 2 + i by omega]
        exact List.mem_cons_of_mem _ h1
    · rw [if_neg hw] at h ⊢
      match i, h with
      | 0, h => simp at h; subst h; exact List.mem_cons_self
      | i + 1, h =>
        rw [List.getElem?_cons_succ] at h
        have h1 := tl_args_in vs (k + 1) i v h
        rw [show k + (i + 1) = k + 1 + i by omega]
        exact List.mem_cons_of_mem _ h1
theorem CT_of {y : MethodName} {d mc ms : Nat} {av : List Value} {Q : Option Value → tl_S → Prop} (hpl : plainName y.cls = true) (hy1 : y.cls = mt.1) (hy2 : y.name = mt.2.2.2.2) (hle : (lg_sl av).length ≤ mt.2.2.1) (h : TW G mt (tl_rm d mc ms) 0 0 0 (tl_args av ++ List.replicate (mt.2.2.1 - (tl_args av).length) none) [] σ (ZM G Q mc ms)) : CT G y mt d mc ms av σ Q := by
  refine Met.ofW (cc := mt.2.1) (maxL := mt.2.2.1) (ret := mt.2.2.2.1) hpl rfl ?_
  intro p e s m args below meth c s₁ B hml hv
  obtain ⟨rfl, hK, hH⟩ := hv
  have hts := atoms_spec (ws := Cond.code y mt.2.1 mt.2.2.1 mt.2.2.2.1 :: tl_W) B.pre
  have hown : s.vm.findClass mt.1 = some m.cls := by rw [← hy1]; exact findClass_of_methodNamed B.named
  have hnm : meth.name = mt.2.2.2.2 := by rw [← hy2]; exact (name_of_methodNamed B.named B.method).1
  have hl := lv_entry av (n := mt.2.2.1) hle
  rw [lg_entry_eq]
  refine h p e s m av.toArray below meth c s.heap [] _ ⟨B.exec, B.bytes, hml, B.returns, B.notSynchronized, hnm, hown, fun w hw => hts w (List.mem_cons_of_mem _ hw), hK⟩ hH (fun q hq => by cases hq) ⟨hl.1, hl.2.1, fun i v hi => ?_⟩
  rw [List.getElem?_append] at hi
  split at hi
  · have h1 := tl_args_in av 0 i v hi
    rw [Nat.zero_add] at h1
    exact hl.2.2 (i, v) h1
  · rw [List.getElem?_replicate] at hi
    split at hi <;> cases hi
theorem tl_good : GoodIn tl_W tl_W := goodIn_sub (fun _ h => h) (by decide +kernel)
theorem tl_goodC {w : Cond} (h : w ∈ tl_W) : GoodIn tl_W (w :: tl_W) := fun x hx => by
  rcases List.mem_cons.mp hx with rfl | hx
  · exact tl_good _ h
  · exact tl_good _ hx
/-- a call's words -/
def tl_CW (own : String) (idx : Nat) (y : MethodName) (mt' : tl_M) (k : Nat) : Prop := Cond.methodLink own idx y ∈ tl_W ∧ Cond.initialized y.cls ∈ tl_W ∧ Cond.code y mt'.2.1 mt'.2.2.1 mt'.2.2.2.1 ∈ tl_W ∧ y.cls ≠ "java/lang/invoke/MethodHandle" ∧ y.cls ≠ "java/lang/invoke/VarHandle" ∧ (parseMethodDescriptor y.desc).map (fun d => d.parameters.length) = some k
def tl_VW (own : String) (idx : Nat) (y : MethodName) (mt' : tl_M) (k ci : Nat) : Prop := tl_CW own idx y mt' k ∧ Cond.instanceMethod y ∈ tl_W ∧ Cond.selects y.cls y y ∈ tl_W ∧ ∃ r, tl_cl[ci]? = some r ∧ r.1 = y.cls
theorem tl_callB {own : String} {idx k d mc ms : Nat} {y : MethodName} {mt' : tl_M} {s : State} {args : Array Value} (hw : tl_CW own idx y mt' k) (hts : ∀ w ∈ tl_W, w.before args s = true) (h1 : d + 1 ≤ R.frames) (h2 : 8 + (mt'.2.2.1 + 11) + 40 * d ≤ R.locals) : CallB R s args own idx y mt'.2.1 mt'.2.2.1 mt'.2.2.2.1 (Cond.code y mt'.2.1 mt'.2.2.1 mt'.2.2.2.1 :: tl_W) (tl_rm d mc ms) mc ms k :=
  callB_of k hts (tl_goodC hw.2.2.1) rfl rfl rfl (hts _ hw.2.1) (hts _ hw.1) ⟨hw.2.2.2.1, hw.2.2.2.2.1, hw.2.2.2.2.2⟩ ⟨h1, h2⟩
theorem tl_blind {av : List Value} : FrameBlind (va_Pc av (fun U => tl_K G U ∧ tl_H G σ U.heap)) := fun a U g mk q => ⟨q.1, tl_K_same (u := U) (U := U.calling g mk a) rfl q.2.1, q.2.2⟩
/-- behind a call -/
theorem tl_after {p : Program} {e : Env} {s : State} {m : MethodId} {args a : Array Value} {below : List Frame} {meth : Method} {c : Code} {H : Heap} {locs : List Loc} {ls : Array Slot} {st0 rest : List Value} {mc ms : Nat} {Q' : Option Value → tl_S → Prop} (hr : va_Run p (gL G) e R s m args below meth c H locs cells slots mc ms (F0 m pc ls st0) rest (tl_Q G Q' a) (fun q => gB G ≤ q)) (hC : tl_C G mt p s m args meth c) (hlo : ∀ q ∈ locs, gB G ≤ q.base) (hl : tl_lh ls mt.2.2.1 L) (kk : ∀ (v : Option Value) (σ' : tl_S), Q' v σ' → TW G mt R (cells + mc) (slots + ms) (pc + 3) L (v.toList ++ rest) σ' Z) : W p (gL G) e R s m args below meth c H locs cells slots (Z below args s) (F0 m pc ls st0) := by
  intro T hT X
  obtain ⟨v, st₀, t, T', L', h0, X', hL, e1, e2, ⟨v', σ', hv, hQ, hK, hH⟩, st⟩ := hr T hT X
  cases hv
  obtain ⟨t2, a1, b1⟩ := kk v σ' hQ p e s m args below meth c T'.heap (locs ++ L') ls hC (by rw [e1]; exact hH) (fun q hq => by
    rcases List.mem_append.mp hq with h | h
    · exact hlo q h
    · exact hL q h) hl T' rfl X'
  exact ⟨t2, st t2 a1, b1⟩
theorem T_callV {idx d mc ms ci b k : Nat} {y : MethodName} {mt' : tl_M} {As stk rest : List Value} {Q' : Option Value → tl_S → Prop} (hd : decode mt.2.1 pc = .ok (.invokevirtual idx, 3)) (hp : pc + 3 = n) (hw : tl_VW mt.1 idx y mt' k ci) (hk : As.length = k) (hst : stk = As.reverse ++ .ref b :: rest) (hs : sS σ b = (1, ci)) (hcat : (rest.map fun v => v.category).sum ≤ 8) (hR : d + 1 ≤ R.frames ∧ 8 + (mt'.2.2.1 + 11) + 40 * d ≤ R.locals ∧ cells + mc ≤ R.cells ∧ slots + ms ≤ R.slots) (hc : CT G y mt' d mc ms (.ref b :: As) σ Q') (kk : ∀ (v : Option Value) (σ' : tl_S), Q' v σ' → TW G mt R (cells + mc) (slots + ms) n L (v.toList ++ rest) σ' Z) : TW G mt R cells slots pc L stk σ Z := by
  subst hp; subst hst
  intro p e s m args below meth c H locs ls hC hH hlo hl
  obtain ⟨hx, hb, hml, -, -, -, hown, hts, hK⟩ := id hC
  obtain ⟨hcw, hin, hsel, r, hr1, hr2⟩ := hw
  have hcell := hH.2.2.2.2 b
  unfold tl_cell at hcell
  rw [hs] at hcell
  obtain ⟨q, hq, cell, q1, q2, q3, q4⟩ := hcell
  cases hr1.symm.trans hq
  refine tl_after (va_runV (As := As) (rest := rest) ⟨hx, hb, hml, hown, hts⟩ hc ⟨tl_callB hcw hts hR.1 hR.2.1, hts _ hin, hts _ hsel⟩ ⟨tl_blind, ⟨cell, q1, by rw [q3]; rfl, by rw [q2, ← hr2]; exact (hK.1.1 ci r hr1).2.1⟩, fun U hU hW => ⟨rfl, tl_K_moved hW hK, by rw [hU]; exact hH⟩⟩ rfl hk hl.1 rfl (lv_room hcat) hd ⟨hR.2.2.1, hR.2.2.2⟩) hC hlo hl kk
theorem T_callS {idx d mc ms k : Nat} {y : MethodName} {mt' : tl_M} {As stk rest : List Value} {Q' : Option Value → tl_S → Prop} (hd : decode mt.2.1 pc = .ok (.invokestatic idx, 3)) (hp : pc + 3 = n) (hw : tl_CW mt.1 idx y mt' k ∧ Cond.static y ∈ tl_W) (hk : As.length = k) (hst : stk = As.reverse ++ rest) (hcat : (rest.map fun v => v.category).sum ≤ 8) (hR : d + 1 ≤ R.frames ∧ 8 + (mt'.2.2.1 + 11) + 40 * d ≤ R.locals ∧ cells + mc ≤ R.cells ∧ slots + ms ≤ R.slots) (hc : CT G y mt' d mc ms As σ Q') (kk : ∀ (v : Option Value) (σ' : tl_S), Q' v σ' → TW G mt R (cells + mc) (slots + ms) n L (v.toList ++ rest) σ' Z) : TW G mt R cells slots pc L stk σ Z := by
  subst hp; subst hst
  intro p e s m args below meth c H locs ls hC hH hlo hl
  obtain ⟨hx, hb, hml, -, -, -, hown, hts, hK⟩ := id hC
  refine tl_after (va_runS (As := As) (rest := rest) ⟨hx, hb, hml, hown, hts⟩ hc ⟨tl_callB hw.1 hts hR.1 hR.2.1, hts _ hw.2⟩ ⟨tl_blind, fun U hU hW => ⟨rfl, tl_K_moved hW hK, by rw [hU]; exact hH⟩⟩ rfl hk hl.1 rfl (lv_room hcat) hd ⟨hR.2.2.1, hR.2.2.2⟩) hC hlo hl kk
theorem T_callI {idx d mc ms b k : Nat} {y : MethodName} {mt' : tl_M} {As stk rest : List Value} {Q' : Option Value → tl_S → Prop} (hd : decode mt.2.1 pc = .ok (.invokespecial idx, 3)) (hp : pc + 3 = n) (hw : tl_CW mt.1 idx y mt' k ∧ Cond.instanceMethod y ∈ tl_W ∧ y.name = "<init>" ∧ mt'.2.2.2.1 = none) (hk : As.length = k) (hst : stk = As.reverse ++ .ref b :: rest) (hcat : (rest.map fun v => v.category).sum ≤ 8) (hR : d + 1 ≤ R.frames ∧ 8 + (mt'.2.2.1 + 11) + 40 * d ≤ R.locals ∧ cells + mc ≤ R.cells ∧ slots + ms ≤ R.slots) (hc : CT G y mt' d mc ms (.ref b :: As) σ Q') (kk : ∀ (v : Option Value) (σ' : tl_S), Q' v σ' → TW G mt R (cells + mc) (slots + ms) n L (v.toList ++ rest) σ' Z) : TW G mt R cells slots pc L stk σ Z := by
  subst hp; subst hst
  intro p e s m args below meth c H locs ls hC hH hlo hl
  obtain ⟨hx, hb, hml, -, -, -, hown, hts, hK⟩ := id hC
  obtain ⟨hcw, hin, hyn, hrn⟩ := hw
  have hB := tl_callB (mc := mc) (ms := ms) hcw hts hR.1 hR.2.1
  rw [hrn] at hB
  unfold CT at hc
  rw [hrn] at hc
  refine tl_after (va_runI (As := As) (rest := rest) ⟨hx, hb, hml, hown, hts⟩ hc ⟨hB, hyn, hts _ hin⟩ ⟨tl_blind, fun U hU hW => ⟨rfl, tl_K_moved hW hK, by rw [hU]; exact hH⟩⟩ rfl hk hl.1 rfl (lv_room hcat) hd ⟨hR.2.2.1, hR.2.2.2⟩) hC hlo hl kk
/-- a weaker end -/
theorem CT_mono {y : MethodName} {d mc ms : Nat} {av : List Value} {Q Q' : Option Value → tl_S → Prop} (h : CT G y mt d mc ms av σ Q) (hq : ∀ v σ', Q v σ' → Q' v σ') : CT G y mt d mc ms av σ Q' := by
  intro p e ha hc hk s m args below hf happ hP hX
  obtain ⟨k, o, h1, h2, h3, ⟨v, σ', g1, g2, g3⟩, h5⟩ := h p e ha hc hk s m args below hf happ hP hX
  exact ⟨k, o, h1, h2, h3, ⟨v, σ', g1, hq v σ' g2, g3⟩, h5⟩
end TC
end
section
/-! ===== facts, by program ===== -/
theorem inR1 : ∀ w ∈ wsL_law_r1, w ∈ tl_W := fun _ h => tl_inW (List.mem_append_left _ (List.mem_append_left _ (List.mem_append_left _ (List.mem_append_left _ (List.mem_append_left _ (List.mem_append_left _ (List.mem_append_left _ h)))))))
theorem inR2 : ∀ w ∈ wsL_law_r2, w ∈ tl_W := fun _ h => tl_inW (List.mem_append_left _ (List.mem_append_left _ (List.mem_append_left _ (List.mem_append_left _ (List.mem_append_left _ (List.mem_append_left _ (List.mem_append_right _ (List.mem_append_left _ h))))))))
theorem inR3 : ∀ w ∈ wsL_law_r3, w ∈ tl_W := fun _ h => tl_inW (List.mem_append_left _ (List.mem_append_left _ (List.mem_append_left _ (List.mem_append_left _ (List.mem_append_left _ (List.mem_append_left _ (List.mem_append_right _ (List.mem_append_right _ (List.mem_append_left _ h)))))))))
theorem inR4 : ∀ w ∈ wsL_law_r4, w ∈ tl_W := fun _ h => tl_inW (List.mem_append_left _ (List.mem_append_left _ (List.mem_append_left _ (List.mem_append_left _ (List.mem_append_left _ (List.mem_append_left _ (List.mem_append_right _ (List.mem_append_right _ (List.mem_append_right _ (List.mem_append_left _ h))))))))))
theorem inR5 : ∀ w ∈ wsL_law_r5, w ∈ tl_W := fun _ h => tl_inW (List.mem_append_left _ (List.mem_append_left _ (List.mem_append_left _ (List.mem_append_left _ (List.mem_append_left _ (List.mem_append_left _ (List.mem_append_right _ (List.mem_append_right _ (List.mem_append_right _ (List.mem_append_right _ (List.mem_append_left _ h)))))))))))
theorem inR6 : ∀ w ∈ wsL_law_r6, w ∈ tl_W := fun _ h => tl_inW (List.mem_append_left _ (List.mem_append_left _ (List.mem_append_left _ (List.mem_append_left _ (List.mem_append_left _ (List.mem_append_left _ (List.mem_append_right _ (List.mem_append_right _ (List.mem_append_right _ (List.mem_append_right _ (List.mem_append_right _ (List.mem_append_left _ h))))))))))))
theorem inR7 : ∀ w ∈ wsL_law_r7, w ∈ tl_W := fun _ h => tl_inW (List.mem_append_left _ (List.mem_append_left _ (List.mem_append_left _ (List.mem_append_left _ (List.mem_append_left _ (List.mem_append_left _ (List.mem_append_right _ (List.mem_append_right _ (List.mem_append_right _ (List.mem_append_right _ (List.mem_append_right _ (List.mem_append_right _ (List.mem_append_left _ h)))))))))))))
theorem inR8 : ∀ w ∈ wsL_law_r8, w ∈ tl_W := fun _ h => tl_inW (List.mem_append_left _ (List.mem_append_left _ (List.mem_append_left _ (List.mem_append_left _ (List.mem_append_left _ (List.mem_append_left _ (List.mem_append_right _ (List.mem_append_right _ (List.mem_append_right _ (List.mem_append_right _ (List.mem_append_right _ (List.mem_append_right _ (List.mem_append_right _ (List.mem_append_left _ h))))))))))))))
theorem inR9 : ∀ w ∈ wsL_law_r9, w ∈ tl_W := fun _ h => tl_inW (List.mem_append_left _ (List.mem_append_left _ (List.mem_append_left _ (List.mem_append_left _ (List.mem_append_left _ (List.mem_append_left _ (List.mem_append_right _ (List.mem_append_right _ (List.mem_append_right _ (List.mem_append_right _ (List.mem_append_right _ (List.mem_append_right _ (List.mem_append_right _ (List.mem_append_right _ (List.mem_append_left _ h)))))))))))))))
theorem inR10 : ∀ w ∈ wsL_law_r10, w ∈ tl_W := fun _ h => tl_inW (List.mem_append_left _ (List.mem_append_left _ (List.mem_append_left _ (List.mem_append_left _ (List.mem_append_left _ (List.mem_append_left _ (List.mem_append_right _ (List.mem_append_right _ (List.mem_append_right _ (List.mem_append_right _ (List.mem_append_right _ (List.mem_append_right _ (List.mem_append_right _ (List.mem_append_right _ (List.mem_append_right _ (List.mem_append_left _ h))))))))))))))))
theorem inR11 : ∀ w ∈ wsL_law_r11, w ∈ tl_W := fun _ h => tl_inW (List.mem_append_left _ (List.mem_append_left _ (List.mem_append_left _ (List.mem_append_left _ (List.mem_append_left _ (List.mem_append_left _ (List.mem_append_right _ (List.mem_append_right _ (List.mem_append_right _ (List.mem_append_right _ (List.mem_append_right _ (List.mem_append_right _ (List.mem_append_right _ (List.mem_append_right _ (List.mem_append_right _ (List.mem_append_right _ (List.mem_append_left _ h)))))))))))))))))
theorem inR12 : ∀ w ∈ wsL_law_r12, w ∈ tl_W := fun _ h => tl_inW (List.mem_append_left _ (List.mem_append_left _ (List.mem_append_left _ (List.mem_append_left _ (List.mem_append_left _ (List.mem_append_left _ (List.mem_append_right _ (List.mem_append_right _ (List.mem_append_right _ (List.mem_append_right _ (List.mem_append_right _ (List.mem_append_right _ (List.mem_append_right _ (List.mem_append_right _ (List.mem_append_right _ (List.mem_append_right _ (List.mem_append_right _ (List.mem_append_left _ h))))))))))))))))))
theorem inR13 : ∀ w ∈ wsL_law_r13, w ∈ tl_W := fun _ h => tl_inW (List.mem_append_left _ (List.mem_append_left _ (List.mem_append_left _ (List.mem_append_left _ (List.mem_append_left _ (List.mem_append_left _ (List.mem_append_right _ (List.mem_append_right _ (List.mem_append_right _ (List.mem_append_right _ (List.mem_append_right _ (List.mem_append_right _ (List.mem_append_right _ (List.mem_append_right _ (List.mem_append_right _ (List.mem_append_right _ (List.mem_append_right _ (List.mem_append_right _ (List.mem_append_left _ h)))))))))))))))))))
theorem inR14 : ∀ w ∈ wsL_law_r14, w ∈ tl_W := fun _ h => tl_inW (List.mem_append_left _ (List.mem_append_left _ (List.mem_append_left _ (List.mem_append_left _ (List.mem_append_left _ (List.mem_append_left _ (List.mem_append_right _ (List.mem_append_right _ (List.mem_append_right _ (List.mem_append_right _ (List.mem_append_right _ (List.mem_append_right _ (List.mem_append_right _ (List.mem_append_right _ (List.mem_append_right _ (List.mem_append_right _ (List.mem_append_right _ (List.mem_append_right _ (List.mem_append_right _ (List.mem_append_left _ h))))))))))))))))))))
theorem inR15 : ∀ w ∈ wsL_law_r15, w ∈ tl_W := fun _ h => tl_inW (List.mem_append_left _ (List.mem_append_left _ (List.mem_append_left _ (List.mem_append_left _ (List.mem_append_left _ (List.mem_append_left _ (List.mem_append_right _ (List.mem_append_right _ (List.mem_append_right _ (List.mem_append_right _ (List.mem_append_right _ (List.mem_append_right _ (List.mem_append_right _ (List.mem_append_right _ (List.mem_append_right _ (List.mem_append_right _ (List.mem_append_right _ (List.mem_append_right _ (List.mem_append_right _ (List.mem_append_right _ (List.mem_append_left _ h)))))))))))))))))))))
theorem inR16 : ∀ w ∈ wsL_law_r16, w ∈ tl_W := fun _ h => tl_inW (List.mem_append_left _ (List.mem_append_left _ (List.mem_append_left _ (List.mem_append_left _ (List.mem_append_left _ (List.mem_append_left _ (List.mem_append_right _ (List.mem_append_right _ (List.mem_append_right _ (List.mem_append_right _ (List.mem_append_right _ (List.mem_append_right _ (List.mem_append_right _ (List.mem_append_right _ (List.mem_append_right _ (List.mem_append_right _ (List.mem_append_right _ (List.mem_append_right _ (List.mem_append_right _ (List.mem_append_right _ (List.mem_append_right _ (List.mem_append_left _ h))))))))))))))))))))))
theorem inR17 : ∀ w ∈ wsL_law_r17, w ∈ tl_W := fun _ h => tl_inW (List.mem_append_left _ (List.mem_append_left _ (List.mem_append_left _ (List.mem_append_left _ (List.mem_append_left _ (List.mem_append_left _ (List.mem_append_right _ (List.mem_append_right _ (List.mem_append_right _ (List.mem_append_right _ (List.mem_append_right _ (List.mem_append_right _ (List.mem_append_right _ (List.mem_append_right _ (List.mem_append_right _ (List.mem_append_right _ (List.mem_append_right _ (List.mem_append_right _ (List.mem_append_right _ (List.mem_append_right _ (List.mem_append_right _ (List.mem_append_right _ (List.mem_append_left _ h)))))))))))))))))))))))
theorem inR18 : ∀ w ∈ wsL_law_r18, w ∈ tl_W := fun _ h => tl_inW (List.mem_append_left _ (List.mem_append_left _ (List.mem_append_left _ (List.mem_append_left _ (List.mem_append_left _ (List.mem_append_left _ (List.mem_append_right _ (List.mem_append_right _ (List.mem_append_right _ (List.mem_append_right _ (List.mem_append_right _ (List.mem_append_right _ (List.mem_append_right _ (List.mem_append_right _ (List.mem_append_right _ (List.mem_append_right _ (List.mem_append_right _ (List.mem_append_right _ (List.mem_append_right _ (List.mem_append_right _ (List.mem_append_right _ (List.mem_append_right _ (List.mem_append_right _ (List.mem_append_left _ h))))))))))))))))))))))))
theorem inR19 : ∀ w ∈ wsL_law_r19, w ∈ tl_W := fun _ h => tl_inW (List.mem_append_left _ (List.mem_append_left _ (List.mem_append_left _ (List.mem_append_left _ (List.mem_append_left _ (List.mem_append_left _ (List.mem_append_right _ (List.mem_append_right _ (List.mem_append_right _ (List.mem_append_right _ (List.mem_append_right _ (List.mem_append_right _ (List.mem_append_right _ (List.mem_append_right _ (List.mem_append_right _ (List.mem_append_right _ (List.mem_append_right _ (List.mem_append_right _ (List.mem_append_right _ (List.mem_append_right _ (List.mem_append_right _ (List.mem_append_right _ (List.mem_append_right _ (List.mem_append_right _ (List.mem_append_left _ h)))))))))))))))))))))))))
theorem inR20 : ∀ w ∈ wsL_law_r20, w ∈ tl_W := fun _ h => tl_inW (List.mem_append_left _ (List.mem_append_left _ (List.mem_append_left _ (List.mem_append_left _ (List.mem_append_left _ (List.mem_append_left _ (List.mem_append_right _ (List.mem_append_right _ (List.mem_append_right _ (List.mem_append_right _ (List.mem_append_right _ (List.mem_append_right _ (List.mem_append_right _ (List.mem_append_right _ (List.mem_append_right _ (List.mem_append_right _ (List.mem_append_right _ (List.mem_append_right _ (List.mem_append_right _ (List.mem_append_right _ (List.mem_append_right _ (List.mem_append_right _ (List.mem_append_right _ (List.mem_append_right _ (List.mem_append_right _ (List.mem_append_left _ h))))))))))))))))))))))))))
theorem inR21 : ∀ w ∈ wsL_law_r21, w ∈ tl_W := fun _ h => tl_inW (List.mem_append_left _ (List.mem_append_left _ (List.mem_append_left _ (List.mem_append_left _ (List.mem_append_left _ (List.mem_append_left _ (List.mem_append_right _ (List.mem_append_right _ (List.mem_append_right _ (List.mem_append_right _ (List.mem_append_right _ (List.mem_append_right _ (List.mem_append_right _ (List.mem_append_right _ (List.mem_append_right _ (List.mem_append_right _ (List.mem_append_right _ (List.mem_append_right _ (List.mem_append_right _ (List.mem_append_right _ (List.mem_append_right _ (List.mem_append_right _ (List.mem_append_right _ (List.mem_append_right _ (List.mem_append_right _ (List.mem_append_right _ (List.mem_append_left _ h)))))))))))))))))))))))))))
theorem inR22 : ∀ w ∈ wsL_law_r22, w ∈ tl_W := fun _ h => tl_inW (List.mem_append_left _ (List.mem_append_left _ (List.mem_append_left _ (List.mem_append_left _ (List.mem_append_left _ (List.mem_append_left _ (List.mem_append_right _ (List.mem_append_right _ (List.mem_append_right _ (List.mem_append_right _ (List.mem_append_right _ (List.mem_append_right _ (List.mem_append_right _ (List.mem_append_right _ (List.mem_append_right _ (List.mem_append_right _ (List.mem_append_right _ (List.mem_append_right _ (List.mem_append_right _ (List.mem_append_right _ (List.mem_append_right _ (List.mem_append_right _ (List.mem_append_right _ (List.mem_append_right _ (List.mem_append_right _ (List.mem_append_right _ (List.mem_append_right _ (List.mem_append_left _ h))))))))))))))))))))))))))))
theorem inR23 : ∀ w ∈ wsL_law_r23, w ∈ tl_W := fun _ h => tl_inW (List.mem_append_left _ (List.mem_append_left _ (List.mem_append_left _ (List.mem_append_left _ (List.mem_append_left _ (List.mem_append_left _ (List.mem_append_right _ (List.mem_append_right _ (List.mem_append_right _ (List.mem_append_right _ (List.mem_append_right _ (List.mem_append_right _ (List.mem_append_right _ (List.mem_append_right _ (List.mem_append_right _ (List.mem_append_right _ (List.mem_append_right _ (List.mem_append_right _ (List.mem_append_right _ (List.mem_append_right _ (List.mem_append_right _ (List.mem_append_right _ (List.mem_append_right _ (List.mem_append_right _ (List.mem_append_right _ (List.mem_append_right _ (List.mem_append_right _ (List.mem_append_right _ (List.mem_append_left _ h)))))))))))))))))))))))))))))
theorem inR24 : ∀ w ∈ wsL_law_r24, w ∈ tl_W := fun _ h => tl_inW (List.mem_append_left _ (List.mem_append_left _ (List.mem_append_left _ (List.mem_append_left _ (List.mem_append_left _ (List.mem_append_left _ (List.mem_append_right _ (List.mem_append_right _ (List.mem_append_right _ (List.mem_append_right _ (List.mem_append_right _ (List.mem_append_right _ (List.mem_append_right _ (List.mem_append_right _ (List.mem_append_right _ (List.mem_append_right _ (List.mem_append_right _ (List.mem_append_right _ (List.mem_append_right _ (List.mem_append_right _ (List.mem_append_right _ (List.mem_append_right _ (List.mem_append_right _ (List.mem_append_right _ (List.mem_append_right _ (List.mem_append_right _ (List.mem_append_right _ (List.mem_append_right _ (List.mem_append_right _ (List.mem_append_left _ h))))))))))))))))))))))))))))))
theorem inR25 : ∀ w ∈ wsL_law_r25, w ∈ tl_W := fun _ h => tl_inW (List.mem_append_left _ (List.mem_append_left _ (List.mem_append_left _ (List.mem_append_left _ (List.mem_append_left _ (List.mem_append_left _ (List.mem_append_right _ (List.mem_append_right _ (List.mem_append_right _ (List.mem_append_right _ (List.mem_append_right _ (List.mem_append_right _ (List.mem_append_right _ (List.mem_append_right _ (List.mem_append_right _ (List.mem_append_right _ (List.mem_append_right _ (List.mem_append_right _ (List.mem_append_right _ (List.mem_append_right _ (List.mem_append_right _ (List.mem_append_right _ (List.mem_append_right _ (List.mem_append_right _ (List.mem_append_right _ (List.mem_append_right _ (List.mem_append_right _ (List.mem_append_right _ (List.mem_append_right _ (List.mem_append_right _ (List.mem_append_left _ h)))))))))))))))))))))))))))))))
theorem inR26 : ∀ w ∈ wsL_law_r26, w ∈ tl_W := fun _ h => tl_inW (List.mem_append_left _ (List.mem_append_left _ (List.mem_append_left _ (List.mem_append_left _ (List.mem_append_left _ (List.mem_append_left _ (List.mem_append_right _ (List.mem_append_right _ (List.mem_append_right _ (List.mem_append_right _ (List.mem_append_right _ (List.mem_append_right _ (List.mem_append_right _ (List.mem_append_right _ (List.mem_append_right _ (List.mem_append_right _ (List.mem_append_right _ (List.mem_append_right _ (List.mem_append_right _ (List.mem_append_right _ (List.mem_append_right _ (List.mem_append_right _ (List.mem_append_right _ (List.mem_append_right _ (List.mem_append_right _ (List.mem_append_right _ (List.mem_append_right _ (List.mem_append_right _ (List.mem_append_right _ (List.mem_append_right _ (List.mem_append_right _ (List.mem_append_left _ h))))))))))))))))))))))))))))))))
theorem inR27 : ∀ w ∈ wsL_law_r27, w ∈ tl_W := fun _ h => tl_inW (List.mem_append_left _ (List.mem_append_left _ (List.mem_append_left _ (List.mem_append_left _ (List.mem_append_left _ (List.mem_append_left _ (List.mem_append_right _ (List.mem_append_right _ (List.mem_append_right _ (List.mem_append_right _ (List.mem_append_right _ (List.mem_append_right _ (List.mem_append_right _ (List.mem_append_right _ (List.mem_append_right _ (List.mem_append_right _ (List.mem_append_right _ (List.mem_append_right _ (List.mem_append_right _ (List.mem_append_right _ (List.mem_append_right _ (List.mem_append_right _ (List.mem_append_right _ (List.mem_append_right _ (List.mem_append_right _ (List.mem_append_right _ (List.mem_append_right _ (List.mem_append_right _ (List.mem_append_right _ (List.mem_append_right _ (List.mem_append_right _ (List.mem_append_right _ (List.mem_append_left _ h)))))))))))))))))))))))))))))))))
theorem inR28 : ∀ w ∈ wsL_law_r28, w ∈ tl_W := fun _ h => tl_inW (List.mem_append_left _ (List.mem_append_left _ (List.mem_append_left _ (List.mem_append_left _ (List.mem_append_left _ (List.mem_append_left _ (List.mem_append_right _ (List.mem_append_right _ (List.mem_append_right _ (List.mem_append_right _ (List.mem_append_right _ (List.mem_append_right _ (List.mem_append_right _ (List.mem_append_right _ (List.mem_append_right _ (List.mem_append_right _ (List.mem_append_right _ (List.mem_append_right _ (List.mem_append_right _ (List.mem_append_right _ (List.mem_append_right _ (List.mem_append_right _ (List.mem_append_right _ (List.mem_append_right _ (List.mem_append_right _ (List.mem_append_right _ (List.mem_append_right _ (List.mem_append_right _ (List.mem_append_right _ (List.mem_append_right _ (List.mem_append_right _ (List.mem_append_right _ (List.mem_append_right _ (List.mem_append_left _ h))))))))))))))))))))))))))))))))))
theorem inR29 : ∀ w ∈ wsL_law_r29, w ∈ tl_W := fun _ h => tl_inW (List.mem_append_left _ (List.mem_append_left _ (List.mem_append_left _ (List.mem_append_left _ (List.mem_append_left _ (List.mem_append_left _ (List.mem_append_right _ (List.mem_append_right _ (List.mem_append_right _ (List.mem_append_right _ (List.mem_append_right _ (List.mem_append_right _ (List.mem_append_right _ (List.mem_append_right _ (List.mem_append_right _ (List.mem_append_right _ (List.mem_append_right _ (List.mem_append_right _ (List.mem_append_right _ (List.mem_append_right _ (List.mem_append_right _ (List.mem_append_right _ (List.mem_append_right _ (List.mem_append_right _ (List.mem_append_right _ (List.mem_append_right _ (List.mem_append_right _ (List.mem_append_right _ (List.mem_append_right _ (List.mem_append_right _ (List.mem_append_right _ (List.mem_append_right _ (List.mem_append_right _ (List.mem_append_right _ (List.mem_append_left _ h)))))))))))))))))))))))))))))))))))
theorem inR30 : ∀ w ∈ wsL_law_r30, w ∈ tl_W := fun _ h => tl_inW (List.mem_append_left _ (List.mem_append_left _ (List.mem_append_left _ (List.mem_append_left _ (List.mem_append_left _ (List.mem_append_left _ (List.mem_append_right _ (List.mem_append_right _ (List.mem_append_right _ (List.mem_append_right _ (List.mem_append_right _ (List.mem_append_right _ (List.mem_append_right _ (List.mem_append_right _ (List.mem_append_right _ (List.mem_append_right _ (List.mem_append_right _ (List.mem_append_right _ (List.mem_append_right _ (List.mem_append_right _ (List.mem_append_right _ (List.mem_append_right _ (List.mem_append_right _ (List.mem_append_right _ (List.mem_append_right _ (List.mem_append_right _ (List.mem_append_right _ (List.mem_append_right _ (List.mem_append_right _ (List.mem_append_right _ (List.mem_append_right _ (List.mem_append_right _ (List.mem_append_right _ (List.mem_append_right _ (List.mem_append_right _ (List.mem_append_left _ h))))))))))))))))))))))))))))))))))))
theorem inR31 : ∀ w ∈ wsL_law_r31, w ∈ tl_W := fun _ h => tl_inW (List.mem_append_left _ (List.mem_append_left _ (List.mem_append_left _ (List.mem_append_left _ (List.mem_append_left _ (List.mem_append_left _ (List.mem_append_right _ (List.mem_append_right _ (List.mem_append_right _ (List.mem_append_right _ (List.mem_append_right _ (List.mem_append_right _ (List.mem_append_right _ (List.mem_append_right _ (List.mem_append_right _ (List.mem_append_right _ (List.mem_append_right _ (List.mem_append_right _ (List.mem_append_right _ (List.mem_append_right _ (List.mem_append_right _ (List.mem_append_right _ (List.mem_append_right _ (List.mem_append_right _ (List.mem_append_right _ (List.mem_append_right _ (List.mem_append_right _ (List.mem_append_right _ (List.mem_append_right _ (List.mem_append_right _ (List.mem_append_right _ (List.mem_append_right _ (List.mem_append_right _ (List.mem_append_right _ (List.mem_append_right _ (List.mem_append_right _ (List.mem_append_left _ h)))))))))))))))))))))))))))))))))))))
theorem inR32 : ∀ w ∈ wsL_law_r32, w ∈ tl_W := fun _ h => tl_inW (List.mem_append_left _ (List.mem_append_left _ (List.mem_append_left _ (List.mem_append_left _ (List.mem_append_left _ (List.mem_append_left _ (List.mem_append_right _ (List.mem_append_right _ (List.mem_append_right _ (List.mem_append_right _ (List.mem_append_right _ (List.mem_append_right _ (List.mem_append_right _ (List.mem_append_right _ (List.mem_append_right _ (List.mem_append_right _ (List.mem_append_right _ (List.mem_append_right _ (List.mem_append_right _ (List.mem_append_right _ (List.mem_append_right _ (List.mem_append_right _ (List.mem_append_right _ (List.mem_append_right _ (List.mem_append_right _ (List.mem_append_right _ (List.mem_append_right _ (List.mem_append_right _ (List.mem_append_right _ (List.mem_append_right _ (List.mem_append_right _ (List.mem_append_right _ (List.mem_append_right _ (List.mem_append_right _ (List.mem_append_right _ (List.mem_append_right _ (List.mem_append_right _ (List.mem_append_left _ h))))))))))))))))))))))))))))))))))))))
theorem inR33 : ∀ w ∈ wsL_law_r33, w ∈ tl_W := fun _ h => tl_inW (List.mem_append_left _ (List.mem_append_left _ (List.mem_append_left _ (List.mem_append_left _ (List.mem_append_left _ (List.mem_append_left _ (List.mem_append_right _ (List.mem_append_right _ (List.mem_append_right _ (List.mem_append_right _ (List.mem_append_right _ (List.mem_append_right _ (List.mem_append_right _ (List.mem_append_right _ (List.mem_append_right _ (List.mem_append_right _ (List.mem_append_right _ (List.mem_append_right _ (List.mem_append_right _ (List.mem_append_right _ (List.mem_append_right _ (List.mem_append_right _ (List.mem_append_right _ (List.mem_append_right _ (List.mem_append_right _ (List.mem_append_right _ (List.mem_append_right _ (List.mem_append_right _ (List.mem_append_right _ (List.mem_append_right _ (List.mem_append_right _ (List.mem_append_right _ (List.mem_append_right _ (List.mem_append_right _ (List.mem_append_right _ (List.mem_append_right _ (List.mem_append_right _ (List.mem_append_right _ (List.mem_append_left _ h)))))))))))))))))))))))))))))))))))))))
theorem inR34 : ∀ w ∈ wsL_law_r34, w ∈ tl_W := fun _ h => tl_inW (List.mem_append_left _ (List.mem_append_left _ (List.mem_append_left _ (List.mem_append_left _ (List.mem_append_left _ (List.mem_append_left _ (List.mem_append_right _ (List.mem_append_right _ (List.mem_append_right _ (List.mem_append_right _ (List.mem_append_right _ (List.mem_append_right _ (List.mem_append_right _ (List.mem_append_right _ (List.mem_append_right _ (List.mem_append_right _ (List.mem_append_right _ (List.mem_append_right _ (List.mem_append_right _ (List.mem_append_right _ (List.mem_append_right _ (List.mem_append_right _ (List.mem_append_right _ (List.mem_append_right _ (List.mem_append_right _ (List.mem_append_right _ (List.mem_append_right _ (List.mem_append_right _ (List.mem_append_right _ (List.mem_append_right _ (List.mem_append_right _ (List.mem_append_right _ (List.mem_append_right _ (List.mem_append_right _ (List.mem_append_right _ (List.mem_append_right _ (List.mem_append_right _ (List.mem_append_right _ (List.mem_append_right _ h)))))))))))))))))))))))))))))))))))))))
abbrev mX3_init : tl_M := (RX3, cX3_init, 2, none, "<init>")
abbrev mX1_init : tl_M := (RX1, cX1_init, 2, none, "<init>")
abbrev mX2_init : tl_M := (RX2, cX2_init, 1, none, "<init>")
abbrev mX2_sweep : tl_M := (RX2, cX2_sweep, 2, none, "sweep")
abbrev mJ7_fill_53178 : tl_M := (RJ7, cJ7_fill_53178, 4, none, "fill")
abbrev mX2_enter : tl_M := (RX2, cX2_enter, 3, none, "enter")
abbrev mX0_init : tl_M := (RX0, cX0_init, 1, none, "<init>")
abbrev mX4_init : tl_M := (RX4, cX4_init, 2, none, "<init>")
abbrev mX3_gate : tl_M := (RX3, cX3_gate, 6, some .int, "gate")
abbrev mX3_isNet : tl_M := (RX3, cX3_isNet, 1, some .boolean, "isNet")
abbrev mX0_hasOperands : tl_M := (RX0, cX0_hasOperands, 6, some .boolean, "hasOperands")
abbrev mX0_hasGate : tl_M := (RX0, cX0_hasGate, 2, some .boolean, "hasGate")
abbrev mX3_isVariable : tl_M := (RX3, cX3_isVariable, 1, some .boolean, "isVariable")
abbrev mX0_addGate : tl_M := (RX0, cX0_addGate, 5, some .int, "addGate")
abbrev mX4_gate : tl_M := (RX4, cX4_gate, 8, some .int, "gate")
abbrev mX4_isNet : tl_M := (RX4, cX4_isNet, 1, some .boolean, "isNet")
abbrev mX4_in : tl_M := (RX4, cX4_in, 3, some .boolean, "in")
abbrev mX4_wants : tl_M := (RX4, cX4_wants, 1, some .int, "wants")
abbrev mX4_isGate : tl_M := (RX4, cX4_isGate, 3, some .boolean, "isGate")
abbrev mX3_output : tl_M := (RX3, cX3_output, 3, some .int, "output")
abbrev mX0_addOutput : tl_M := (RX0, cX0_addOutput, 2, some .int, "addOutput")
abbrev mX4_output : tl_M := (RX4, cX4_output, 3, some .int, "output")
abbrev mX3_clear : tl_M := (RX3, cX3_clear, 2, some .int, "clear")
abbrev mX0_empty : tl_M := (RX0, cX0_empty, 2, some .int, "empty")
abbrev mX4_clear : tl_M := (RX4, cX4_clear, 3, some .int, "clear")
abbrev mX3_gives : tl_M := (RX3, cX3_gives, 4, some .int, "gives")
abbrev mX0_hasOutput : tl_M := (RX0, cX0_hasOutput, 2, some .boolean, "hasOutput")
abbrev mX3_isAssignment : tl_M := (RX3, cX3_isAssignment, 1, some .boolean, "isAssignment")
abbrev mX0_outputValue : tl_M := (RX0, cX0_outputValue, 5, some .int, "outputValue")
abbrev mX0_gateValue : tl_M := (RX0, cX0_gateValue, 6, some .int, "gateValue")
abbrev mX0_operand : tl_M := (RX0, cX0_operand, 3, some .int, "operand")
abbrev mX4_gives : tl_M := (RX4, cX4_gives, 10, some .int, "gives")
abbrev mX4_isOutput : tl_M := (RX4, cX4_isOutput, 3, some .boolean, "isOutput")
abbrev mX4_combined : tl_M := (RX4, cX4_combined, 3, some .boolean, "combined")
abbrev mX3_order : tl_M := (RX3, cX3_order, 2, some .int, "order")
abbrev mX3_heldCount : tl_M := (RX3, cX3_heldCount, 3, some .int, "heldCount")
abbrev mX1_forget : tl_M := (RX1, cX1_forget, 1, none, "forget")
abbrev mX0_meetVariables : tl_M := (RX0, cX0_meetVariables, 3, none, "meetVariables")
abbrev mX0_goInto : tl_M := (RX0, cX0_goInto, 5, none, "goInto")
abbrev mX1_meet : tl_M := (RX1, cX1_meet, 2, none, "meet")
abbrev mX1_put : tl_M := (RX1, cX1_put, 3, none, "put")
abbrev mX1_meetOthers : tl_M := (RX1, cX1_meetOthers, 3, some .int, "meetOthers")
abbrev mX4_order : tl_M := (RX4, cX4_order, 5, some .int, "order")
abbrev mX4_isEmpty : tl_M := (RX4, cX4_isEmpty, 3, some .boolean, "isEmpty")
abbrev mX4_go : tl_M := (RX4, cX4_go, 4, none, "go")
abbrev mX3_move : tl_M := (RX3, cX3_move, 3, some .int, "move")
abbrev mX1_moveTo : tl_M := (RX1, cX1_moveTo, 5, some .int, "moveTo")
abbrev mX4_move : tl_M := (RX4, cX4_move, 6, some .int, "move")
abbrev mX3_at : tl_M := (RX3, cX3_at, 2, some .int, "at")
abbrev mX1_variableAt : tl_M := (RX1, cX1_variableAt, 2, some .int, "variableAt")
abbrev mX4_at : tl_M := (RX4, cX4_at, 2, some .int, "at")
abbrev mX3_room : tl_M := (RX3, cX3_room, 2, some .int, "room")
abbrev mX3_inUse : tl_M := (RX3, cX3_inUse, 1, some .int, "inUse")
abbrev mX3_collect : tl_M := (RX3, cX3_collect, 2, none, "collect")
abbrev mX2_unmark : tl_M := (RX2, cX2_unmark, 1, none, "unmark")
abbrev mX2_mark : tl_M := (RX2, cX2_mark, 2, none, "mark")
abbrev mX2_markWith : tl_M := (RX2, cX2_markWith, 4, none, "markWith")
abbrev mX2_usedCount : tl_M := (RX2, cX2_usedCount, 1, some .int, "usedCount")
abbrev mX2_changeLimit : tl_M := (RX2, cX2_changeLimit, 3, some .int, "changeLimit")
abbrev mX4_room : tl_M := (RX4, cX4_room, 3, some .int, "room")
abbrev mX3_build : tl_M := (RX3, cX3_build, 4, some .int, "build")
abbrev mX3_isHandle : tl_M := (RX3, cX3_isHandle, 1, some .boolean, "isHandle")
abbrev mX3_beginSteps : tl_M := (RX3, cX3_beginSteps, 1, none, "beginSteps")
abbrev mX3_building : tl_M := (RX3, cX3_building, 7, some .int, "building")
abbrev mX0_findNeeds : tl_M := (RX0, cX0_findNeeds, 5, some .int, "findNeeds")
abbrev mX0_noteNeedsOf : tl_M := (RX0, cX0_noteNeedsOf, 5, none, "noteNeedsOf")
abbrev mX0_kindOf : tl_M := (RX0, cX0_kindOf, 2, some .int, "kindOf")
abbrev mX3_variableStep : tl_M := (RX3, cX3_variableStep, 2, some .int, "variableStep")
abbrev mX1_placeOf : tl_M := (RX1, cX1_placeOf, 2, some .int, "placeOf")
abbrev mX2_makeVariable : tl_M := (RX2, cX2_makeVariable, 2, some .int, "makeVariable")
abbrev mX2_nodeFor : tl_M := (RX2, cX2_nodeFor, 6, some .int, "nodeFor")
abbrev mX3_measured : tl_M := (RX3, cX3_measured, 3, some .int, "measured")
abbrev mX2_limit : tl_M := (RX2, cX2_limit, 1, some .int, "limit")
abbrev mX3_madeFor : tl_M := (RX3, cX3_madeFor, 4, some .int, "madeFor")
abbrev mX3_kindStep : tl_M := (RX3, cX3_kindStep, 5, some .int, "kindStep")
abbrev mX2_make : tl_M := (RX2, cX2_make, 5, some .int, "make")
abbrev mX2_makeFrom : tl_M := (RX2, cX2_makeFrom, 10, some .int, "makeFrom")
abbrev mX2_knowing : tl_M := (RX2, cX2_knowing, 5, some .int, "knowing")
abbrev mX2_lowAt : tl_M := (RX2, cX2_lowAt, 3, some .int, "lowAt")
abbrev mX2_highAt : tl_M := (RX2, cX2_highAt, 3, some .int, "highAt")
abbrev mX3_letGoBehind : tl_M := (RX3, cX3_letGoBehind, 6, none, "letGoBehind")
abbrev mX3_keep : tl_M := (RX3, cX3_keep, 2, some .int, "keep")
abbrev mX3_give : tl_M := (RX3, cX3_give, 3, some .int, "give")
abbrev mX3_endSteps : tl_M := (RX3, cX3_endSteps, 1, none, "endSteps")
abbrev mX2_nodeCount : tl_M := (RX2, cX2_nodeCount, 2, some .int, "nodeCount")
abbrev mX2_markedWith : tl_M := (RX2, cX2_markedWith, 4, some .int, "markedWith")
abbrev mX4_build : tl_M := (RX4, cX4_build, 5, some .int, "build")
abbrev mX4_isHandle : tl_M := (RX4, cX4_isHandle, 1, some .boolean, "isHandle")
abbrev mX4_begin : tl_M := (RX4, cX4_begin, 1, none, "begin")
abbrev mX4_builds : tl_M := (RX4, cX4_builds, 7, some .boolean, "builds")
abbrev mX4_needs : tl_M := (RX4, cX4_needs, 7, none, "needs")
abbrev mX4_makeVariable : tl_M := (RX4, cX4_makeVariable, 5, none, "makeVariable")
abbrev mX4_makeChoice : tl_M := (RX4, cX4_makeChoice, 8, none, "makeChoice")
abbrev mX4_makeOf : tl_M := (RX4, cX4_makeOf, 6, none, "makeOf")
abbrev mX4_joined : tl_M := (RX4, cX4_joined, 5, some .long, "joined")
abbrev mX4_steps : tl_M := (RX4, cX4_steps, 2, some .boolean, "steps")
abbrev mX4_add : tl_M := (RX4, cX4_add, 5, none, "add")
abbrev mX4_lays : tl_M := (RX4, cX4_lays, 10, some .boolean, "lays")
abbrev mX4_nodeFor : tl_M := (RX4, cX4_nodeFor, 5, some .int, "nodeFor")
abbrev mX4_bucket : tl_M := (RX4, cX4_bucket, 5, some .int, "bucket")
abbrev mX4_remove : tl_M := (RX4, cX4_remove, 4, none, "remove")
abbrev mX4_unlink : tl_M := (RX4, cX4_unlink, 4, none, "unlink")
abbrev mX4_gets : tl_M := (RX4, cX4_gets, 4, some .int, "gets")
abbrev mX4_take : tl_M := (RX4, cX4_take, 4, none, "take")
abbrev mX4_clearHand : tl_M := (RX4, cX4_clearHand, 2, none, "clearHand")
abbrev mX3_variable : tl_M := (RX3, cX3_variable, 3, some .int, "variable")
abbrev mX4_variable : tl_M := (RX4, cX4_variable, 3, some .int, "variable")
abbrev mX3_combine : tl_M := (RX3, cX3_combine, 7, some .int, "combine")
abbrev mX3_hasFunction : tl_M := (RX3, cX3_hasFunction, 2, some .boolean, "hasFunction")
abbrev mX4_combine : tl_M := (RX4, cX4_combine, 5, some .int, "combine")
abbrev mX4_isFunction : tl_M := (RX4, cX4_isFunction, 2, some .boolean, "isFunction")
abbrev mX3_choose : tl_M := (RX3, cX3_choose, 5, some .int, "choose")
abbrev mX4_choose : tl_M := (RX4, cX4_choose, 5, some .int, "choose")
abbrev mX3_restrict : tl_M := (RX3, cX3_restrict, 5, some .int, "restrict")
abbrev mX3_fixStep : tl_M := (RX3, cX3_fixStep, 4, some .int, "fixStep")
abbrev mX2_makeFixed : tl_M := (RX2, cX2_makeFixed, 4, some .int, "makeFixed")
abbrev mX2_fixFrom : tl_M := (RX2, cX2_fixFrom, 7, some .int, "fixFrom")
abbrev mX4_restrict : tl_M := (RX4, cX4_restrict, 5, some .int, "restrict")
abbrev mX4_noHalf : tl_M := (RX4, cX4_noHalf, 4, some .int, "noHalf")
abbrev mX4_makeHalf : tl_M := (RX4, cX4_makeHalf, 10, none, "makeHalf")
abbrev mX3_quantify : tl_M := (RX3, cX3_quantify, 7, some .int, "quantify")
abbrev mX4_quantify : tl_M := (RX4, cX4_quantify, 6, some .int, "quantify")
abbrev mX4_halves : tl_M := (RX4, cX4_halves, 3, some .boolean, "halves")
abbrev mX3_compose : tl_M := (RX3, cX3_compose, 7, some .int, "compose")
abbrev mX4_compose : tl_M := (RX4, cX4_compose, 6, some .int, "compose")
abbrev mX3_share : tl_M := (RX3, cX3_share, 3, some .int, "share")
abbrev mX4_share : tl_M := (RX4, cX4_share, 3, some .int, "share")
abbrev mX3_drop : tl_M := (RX3, cX3_drop, 3, some .int, "drop")
abbrev mX4_drop : tl_M := (RX4, cX4_drop, 3, some .int, "drop")
abbrev mX3_nodes : tl_M := (RX3, cX3_nodes, 2, some .int, "nodes")
abbrev mX4_nodes : tl_M := (RX4, cX4_nodes, 2, some .int, "nodes")
abbrev mX4_inUse : tl_M := (RX4, cX4_inUse, 1, some .int, "inUse")
abbrev mX3_common : tl_M := (RX3, cX3_common, 3, some .int, "common")
abbrev mX2_commonCount : tl_M := (RX2, cX2_commonCount, 3, some .int, "commonCount")
abbrev mX4_common : tl_M := (RX4, cX4_common, 6, some .int, "common")
abbrev mX3_peak : tl_M := (RX3, cX3_peak, 1, some .int, "peak")
abbrev mX4_peak : tl_M := (RX4, cX4_peak, 1, some .int, "peak")
abbrev mX3_value : tl_M := (RX3, cX3_value, 3, some .int, "value")
abbrev mX2_valueFor : tl_M := (RX2, cX2_valueFor, 7, some .int, "valueFor")
abbrev mX4_value : tl_M := (RX4, cX4_value, 3, some .int, "value")
abbrev mX4_stands : tl_M := (RX4, cX4_stands, 4, some .int, "stands")
abbrev mX4_bit : tl_M := (RX4, cX4_bit, 3, some .boolean, "bit")
abbrev mX3_same : tl_M := (RX3, cX3_same, 3, some .int, "same")
abbrev mX4_same : tl_M := (RX4, cX4_same, 5, some .int, "same")
abbrev mX3_count : tl_M := (RX3, cX3_count, 4, some .int, "count")
abbrev mX4_count : tl_M := (RX4, cX4_count, 4, some .int, "count")
abbrev mX3_support : tl_M := (RX3, cX3_support, 4, some .int, "support")
abbrev mX2_nodeCountAt : tl_M := (RX2, cX2_nodeCountAt, 5, some .int, "nodeCountAt")
abbrev mX4_support : tl_M := (RX4, cX4_support, 4, some .int, "support")
abbrev mX4_hangs : tl_M := (RX4, cX4_hangs, 6, some .boolean, "hangs")
abbrev mX3_top : tl_M := (RX3, cX3_top, 3, some .int, "top")
abbrev mX2_placeOf : tl_M := (RX2, cX2_placeOf, 2, some .int, "placeOf")
abbrev mX4_top : tl_M := (RX4, cX4_top, 3, some .int, "top")
abbrev mX3_level : tl_M := (RX3, cX3_level, 3, some .int, "level")
abbrev mX4_level : tl_M := (RX4, cX4_level, 5, some .int, "level")
abbrev mX3_least : tl_M := (RX3, cX3_least, 3, some .int, "least")
abbrev mX2_leastFor : tl_M := (RX2, cX2_leastFor, 7, some .int, "leastFor")
abbrev mX4_least : tl_M := (RX4, cX4_least, 4, some .int, "least")
abbrev mX4_leastOf : tl_M := (RX4, cX4_leastOf, 4, some .int, "leastOf")
abbrev mX4_assignmentAt : tl_M := (RX4, cX4_assignmentAt, 4, some .int, "assignmentAt")
abbrev mX3_paths : tl_M := (RX3, cX3_paths, 3, some .int, "paths")
abbrev mX2_pathCount : tl_M := (RX2, cX2_pathCount, 3, some .int, "pathCount")
abbrev mX2_pathsFrom : tl_M := (RX2, cX2_pathsFrom, 4, some .int, "pathsFrom")
abbrev mX4_paths : tl_M := (RX4, cX4_paths, 5, some .int, "paths")
abbrev mX3_equal : tl_M := (RX3, cX3_equal, 8, some .int, "equal")
abbrev mX0_outputCount : tl_M := (RX0, cX0_outputCount, 1, some .int, "outputCount")
abbrev mX3_notePart : tl_M := (RX3, cX3_notePart, 3, none, "notePart")
abbrev mX4_equal : tl_M := (RX4, cX4_equal, 8, some .int, "equal")
abbrev mX3_parting : tl_M := (RX3, cX3_parting, 2, some .int, "parting")
abbrev mX4_parting : tl_M := (RX4, cX4_parting, 2, some .int, "parting")
abbrev mX3_told : tl_M := (RX3, cX3_told, 2, some .int, "told")
abbrev mX0_gateCount : tl_M := (RX0, cX0_gateCount, 1, some .int, "gateCount")
abbrev mX4_told : tl_M := (RX4, cX4_told, 4, some .int, "told")
abbrev mMath_max : tl_M := ("java/lang/Math", Lib.Math.max.code, 2, some .int, "max")
abbrev mMath_min : tl_M := ("java/lang/Math", Lib.Math.min.code, 2, some .int, "min")
theorem cnL_7 : tl_CN RL 7 3 11 := ⟨RX3, TX3, rfl, (fun w h => tl_inW (inlX3 w h)), (inR1 _ (List.mem_of_getElem? (i := 0) rfl)), (inR1 _ (List.mem_of_getElem? (i := 1) rfl)), (inR1 _ (List.mem_of_getElem? (i := 2) rfl)), tyX3_ok, by decide +kernel⟩
theorem lkL_7 : Cond.classLink RL 7 RX3 ∈ tl_W := (inR1 _ (List.mem_of_getElem? (i := 0) rfl))
theorem cnL_10 : tl_CN RL 10 4 35 := ⟨RX4, TX4, rfl, (fun w h => tl_inW (inlX4 w h)), (inR1 _ (List.mem_of_getElem? (i := 3) rfl)), (inR1 _ (List.mem_of_getElem? (i := 4) rfl)), (inR1 _ (List.mem_of_getElem? (i := 5) rfl)), tyX4_ok, by decide +kernel⟩
theorem lkL_10 : Cond.classLink RL 10 RX4 ∈ tl_W := (inR1 _ (List.mem_of_getElem? (i := 3) rfl))
theorem cwL_9 : tl_CW RL 9 yX3_init mX3_init 0 ∧ Cond.instanceMethod yX3_init ∈ tl_W ∧ yX3_init.name = "<init>" ∧ mX3_init.2.2.2.1 = none := ⟨⟨(inR1 _ (List.mem_of_getElem? (i := 6) rfl)), (inR1 _ (List.mem_of_getElem? (i := 2) rfl)), (inR1 _ (List.mem_of_getElem? (i := 8) rfl)), by decide, by decide, by decide +kernel⟩, (inR1 _ (List.mem_of_getElem? (i := 7) rfl)), rfl, rfl⟩
theorem moX3_3 : Cond.methodLink RX3 3 objectInit ∈ tl_W := (inR1 _ (List.mem_of_getElem? (i := 9) rfl))
theorem cnX3_9 : tl_CN RX3 9 0 6 := ⟨RX0, TX0, rfl, (fun w h => tl_inW (inlX0 w h)), (inR1 _ (List.mem_of_getElem? (i := 12) rfl)), (inR2 _ (List.mem_of_getElem? (i := 7) rfl)), (inR2 _ (List.mem_of_getElem? (i := 8) rfl)), tyX0_ok, by decide +kernel⟩
theorem lkX3_9 : Cond.classLink RX3 9 RX0 ∈ tl_W := (inR1 _ (List.mem_of_getElem? (i := 12) rfl))
theorem ffX3_11 : tl_FF RX3 11 3 0 (.array (.object "DiagramBench$Net")) true := ⟨RX3, TX3, 11, rfl, by decide, (fun w h => tl_inW (inlX3 w h)), (inR1 _ (List.mem_of_getElem? (i := 13) rfl)), tyX3_ok, nmX3, rfl, rfl, fun _ => rfl⟩
theorem cnX3_15 : tl_CN RX3 15 1 3 := ⟨RX1, TX1, rfl, (fun w h => tl_inW (inlX1 w h)), (inR1 _ (List.mem_of_getElem? (i := 14) rfl)), (inR1 _ (List.mem_of_getElem? (i := 15) rfl)), (inR1 _ (List.mem_of_getElem? (i := 16) rfl)), tyX1_ok, by decide +kernel⟩
theorem lkX3_15 : Cond.classLink RX3 15 RX1 ∈ tl_W := (inR1 _ (List.mem_of_getElem? (i := 14) rfl))
theorem ffX3_18 : tl_FF RX3 18 3 1 (.object "DiagramBench$Order") true := ⟨RX3, TX3, 11, rfl, by decide, (fun w h => tl_inW (inlX3 w h)), (inR1 _ (List.mem_of_getElem? (i := 17) rfl)), tyX3_ok, nmX3, rfl, rfl, fun _ => rfl⟩
theorem cnX3_22 : tl_CN RX3 22 2 9 := ⟨RX2, TX2, rfl, (fun w h => tl_inW (inlX2 w h)), (inR1 _ (List.mem_of_getElem? (i := 18) rfl)), (inR1 _ (List.mem_of_getElem? (i := 19) rfl)), (inR1 _ (List.mem_of_getElem? (i := 20) rfl)), tyX2_ok, by decide +kernel⟩
theorem lkX3_22 : Cond.classLink RX3 22 RX2 ∈ tl_W := (inR1 _ (List.mem_of_getElem? (i := 18) rfl))
theorem ffX3_25 : tl_FF RX3 25 3 2 (.object "DiagramBench$Pool") true := ⟨RX3, TX3, 11, rfl, by decide, (fun w h => tl_inW (inlX3 w h)), (inR1 _ (List.mem_of_getElem? (i := 21) rfl)), tyX3_ok, nmX3, rfl, rfl, fun _ => rfl⟩
theorem ffX3_29 : tl_FF RX3 29 3 3 (.array .int) true := ⟨RX3, TX3, 11, rfl, by decide, (fun w h => tl_inW (inlX3 w h)), (inR1 _ (List.mem_of_getElem? (i := 23) rfl)), tyX3_ok, nmX3, rfl, rfl, fun _ => rfl⟩
theorem ffX3_33 : tl_FF RX3 33 3 4 (.array .int) true := ⟨RX3, TX3, 11, rfl, by decide, (fun w h => tl_inW (inlX3 w h)), (inR2 _ (List.mem_of_getElem? (i := 0) rfl)), tyX3_ok, nmX3, rfl, rfl, fun _ => rfl⟩
theorem ffX3_36 : tl_FF RX3 36 3 5 (.array .int) true := ⟨RX3, TX3, 11, rfl, by decide, (fun w h => tl_inW (inlX3 w h)), (inR2 _ (List.mem_of_getElem? (i := 1) rfl)), tyX3_ok, nmX3, rfl, rfl, fun _ => rfl⟩
theorem ffX3_39 : tl_FF RX3 39 3 6 (.array .int) true := ⟨RX3, TX3, 11, rfl, by decide, (fun w h => tl_inW (inlX3 w h)), (inR2 _ (List.mem_of_getElem? (i := 2) rfl)), tyX3_ok, nmX3, rfl, rfl, fun _ => rfl⟩
theorem ffX3_42 : tl_FF RX3 42 3 7 .int false := ⟨RX3, TX3, 11, rfl, by decide, (fun w h => tl_inW (inlX3 w h)), (inR2 _ (List.mem_of_getElem? (i := 3) rfl)), tyX3_ok, nmX3, rfl, rfl, fun _ => rfl⟩
theorem ffX3_46 : tl_FF RX3 46 3 8 .int false := ⟨RX3, TX3, 11, rfl, by decide, (fun w h => tl_inW (inlX3 w h)), (inR2 _ (List.mem_of_getElem? (i := 4) rfl)), tyX3_ok, nmX3, rfl, rfl, fun _ => rfl⟩
theorem ffX3_49 : tl_FF RX3 49 3 9 .int false := ⟨RX3, TX3, 11, rfl, by decide, (fun w h => tl_inW (inlX3 w h)), (inR2 _ (List.mem_of_getElem? (i := 5) rfl)), tyX3_ok, nmX3, rfl, rfl, fun _ => rfl⟩
theorem ffX3_52 : tl_FF RX3 52 3 10 .int false := ⟨RX3, TX3, 11, rfl, by decide, (fun w h => tl_inW (inlX3 w h)), (inR2 _ (List.mem_of_getElem? (i := 6) rfl)), tyX3_ok, nmX3, rfl, rfl, fun _ => rfl⟩
theorem cwX3_17 : tl_CW RX3 17 yX1_init mX1_init 0 ∧ Cond.instanceMethod yX1_init ∈ tl_W ∧ yX1_init.name = "<init>" ∧ mX1_init.2.2.2.1 = none := ⟨⟨(inR2 _ (List.mem_of_getElem? (i := 9) rfl)), (inR1 _ (List.mem_of_getElem? (i := 16) rfl)), (inR2 _ (List.mem_of_getElem? (i := 11) rfl)), by decide, by decide, by decide +kernel⟩, (inR2 _ (List.mem_of_getElem? (i := 10) rfl)), rfl, rfl⟩
theorem moX1_3 : Cond.methodLink RX1 3 objectInit ∈ tl_W := (inR2 _ (List.mem_of_getElem? (i := 12) rfl))
theorem ffX1_9 : tl_FF RX1 9 1 0 (.array .int) true := ⟨RX1, TX1, 3, rfl, by decide, (fun w h => tl_inW (inlX1 w h)), (inR2 _ (List.mem_of_getElem? (i := 13) rfl)), tyX1_ok, nmX1, rfl, rfl, fun _ => rfl⟩
theorem ffX1_15 : tl_FF RX1 15 1 1 (.array .int) true := ⟨RX1, TX1, 3, rfl, by decide, (fun w h => tl_inW (inlX1 w h)), (inR2 _ (List.mem_of_getElem? (i := 14) rfl)), tyX1_ok, nmX1, rfl, rfl, fun _ => rfl⟩
theorem ffX1_18 : tl_FF RX1 18 1 2 .int false := ⟨RX1, TX1, 3, rfl, by decide, (fun w h => tl_inW (inlX1 w h)), (inR2 _ (List.mem_of_getElem? (i := 15) rfl)), tyX1_ok, nmX1, rfl, rfl, fun _ => rfl⟩
theorem cwX3_24 : tl_CW RX3 24 yX2_init mX2_init 0 ∧ Cond.instanceMethod yX2_init ∈ tl_W ∧ yX2_init.name = "<init>" ∧ mX2_init.2.2.2.1 = none := ⟨⟨(inR2 _ (List.mem_of_getElem? (i := 16) rfl)), (inR1 _ (List.mem_of_getElem? (i := 20) rfl)), (inR2 _ (List.mem_of_getElem? (i := 18) rfl)), by decide, by decide, by decide +kernel⟩, (inR2 _ (List.mem_of_getElem? (i := 17) rfl)), rfl, rfl⟩
theorem moX2_3 : Cond.methodLink RX2 3 objectInit ∈ tl_W := (inR2 _ (List.mem_of_getElem? (i := 19) rfl))
theorem ffX2_11 : tl_FF RX2 11 2 0 (.array .int) true := ⟨RX2, TX2, 9, rfl, by decide, (fun w h => tl_inW (inlX2 w h)), (inR2 _ (List.mem_of_getElem? (i := 20) rfl)), tyX2_ok, nmX2, rfl, rfl, fun _ => rfl⟩
theorem ffX2_15 : tl_FF RX2 15 2 1 (.array .int) true := ⟨RX2, TX2, 9, rfl, by decide, (fun w h => tl_inW (inlX2 w h)), (inR2 _ (List.mem_of_getElem? (i := 21) rfl)), tyX2_ok, nmX2, rfl, rfl, fun _ => rfl⟩
theorem ffX2_18 : tl_FF RX2 18 2 2 (.array .int) true := ⟨RX2, TX2, 9, rfl, by decide, (fun w h => tl_inW (inlX2 w h)), (inR2 _ (List.mem_of_getElem? (i := 22) rfl)), tyX2_ok, nmX2, rfl, rfl, fun _ => rfl⟩
theorem ffX2_21 : tl_FF RX2 21 2 3 (.array .int) true := ⟨RX2, TX2, 9, rfl, by decide, (fun w h => tl_inW (inlX2 w h)), (inR2 _ (List.mem_of_getElem? (i := 23) rfl)), tyX2_ok, nmX2, rfl, rfl, fun _ => rfl⟩
theorem ffX2_24 : tl_FF RX2 24 2 4 (.array .int) true := ⟨RX2, TX2, 9, rfl, by decide, (fun w h => tl_inW (inlX2 w h)), (inR3 _ (List.mem_of_getElem? (i := 0) rfl)), tyX2_ok, nmX2, rfl, rfl, fun _ => rfl⟩
theorem ffX2_27 : tl_FF RX2 27 2 5 (.array .int) true := ⟨RX2, TX2, 9, rfl, by decide, (fun w h => tl_inW (inlX2 w h)), (inR3 _ (List.mem_of_getElem? (i := 1) rfl)), tyX2_ok, nmX2, rfl, rfl, fun _ => rfl⟩
theorem ffX2_30 : tl_FF RX2 30 2 6 .int false := ⟨RX2, TX2, 9, rfl, by decide, (fun w h => tl_inW (inlX2 w h)), (inR3 _ (List.mem_of_getElem? (i := 2) rfl)), tyX2_ok, nmX2, rfl, rfl, fun _ => rfl⟩
theorem ffX2_34 : tl_FF RX2 34 2 7 .int false := ⟨RX2, TX2, 9, rfl, by decide, (fun w h => tl_inW (inlX2 w h)), (inR3 _ (List.mem_of_getElem? (i := 3) rfl)), tyX2_ok, nmX2, rfl, rfl, fun _ => rfl⟩
theorem ffX2_37 : tl_FF RX2 37 2 8 .int false := ⟨RX2, TX2, 9, rfl, by decide, (fun w h => tl_inW (inlX2 w h)), (inR3 _ (List.mem_of_getElem? (i := 4) rfl)), tyX2_ok, nmX2, rfl, rfl, fun _ => rfl⟩
theorem cwX2_40 : tl_VW RX2 40 yX2_sweep mX2_sweep 0 2 := ⟨⟨(inR3 _ (List.mem_of_getElem? (i := 5) rfl)), (inR1 _ (List.mem_of_getElem? (i := 20) rfl)), (inR3 _ (List.mem_of_getElem? (i := 8) rfl)), by decide, by decide, by decide +kernel⟩, (inR3 _ (List.mem_of_getElem? (i := 6) rfl)), (inR3 _ (List.mem_of_getElem? (i := 7) rfl)), _, rfl, rfl⟩
theorem cwX2_43 : tl_CW RX2 43 yJ7_fill_53178 mJ7_fill_53178 2 ∧ Cond.static yJ7_fill_53178 ∈ tl_W := ⟨⟨(inR3 _ (List.mem_of_getElem? (i := 9) rfl)), (inR3 _ (List.mem_of_getElem? (i := 11) rfl)), (inR3 _ (List.mem_of_getElem? (i := 12) rfl)), by decide, by decide, by decide +kernel⟩, (inR3 _ (List.mem_of_getElem? (i := 10) rfl))⟩
theorem cwX2_64 : tl_VW RX2 64 yX2_enter mX2_enter 1 2 := ⟨⟨(inR3 _ (List.mem_of_getElem? (i := 13) rfl)), (inR1 _ (List.mem_of_getElem? (i := 20) rfl)), (inR3 _ (List.mem_of_getElem? (i := 16) rfl)), by decide, by decide, by decide +kernel⟩, (inR3 _ (List.mem_of_getElem? (i := 14) rfl)), (inR3 _ (List.mem_of_getElem? (i := 15) rfl)), _, rfl, rfl⟩
theorem cwX3_55 : tl_CW RX3 55 yX0_init mX0_init 0 ∧ Cond.instanceMethod yX0_init ∈ tl_W ∧ yX0_init.name = "<init>" ∧ mX0_init.2.2.2.1 = none := ⟨⟨(inR3 _ (List.mem_of_getElem? (i := 17) rfl)), (inR2 _ (List.mem_of_getElem? (i := 8) rfl)), (inR3 _ (List.mem_of_getElem? (i := 19) rfl)), by decide, by decide, by decide +kernel⟩, (inR3 _ (List.mem_of_getElem? (i := 18) rfl)), rfl, rfl⟩
theorem moX0_3 : Cond.methodLink RX0 3 objectInit ∈ tl_W := (inR3 _ (List.mem_of_getElem? (i := 20) rfl))
theorem ffX0_9 : tl_FF RX0 9 0 0 (.array .int) true := ⟨RX0, TX0, 6, rfl, by decide, (fun w h => tl_inW (inlX0 w h)), (inR3 _ (List.mem_of_getElem? (i := 21) rfl)), tyX0_ok, nmX0, rfl, rfl, fun _ => rfl⟩
theorem ffX0_15 : tl_FF RX0 15 0 1 (.array .int) true := ⟨RX0, TX0, 6, rfl, by decide, (fun w h => tl_inW (inlX0 w h)), (inR3 _ (List.mem_of_getElem? (i := 22) rfl)), tyX0_ok, nmX0, rfl, rfl, fun _ => rfl⟩
theorem ffX0_18 : tl_FF RX0 18 0 2 (.array .int) true := ⟨RX0, TX0, 6, rfl, by decide, (fun w h => tl_inW (inlX0 w h)), (inR3 _ (List.mem_of_getElem? (i := 23) rfl)), tyX0_ok, nmX0, rfl, rfl, fun _ => rfl⟩
theorem ffX0_21 : tl_FF RX0 21 0 3 (.array .int) true := ⟨RX0, TX0, 6, rfl, by decide, (fun w h => tl_inW (inlX0 w h)), (inR4 _ (List.mem_of_getElem? (i := 0) rfl)), tyX0_ok, nmX0, rfl, rfl, fun _ => rfl⟩
theorem ffX0_24 : tl_FF RX0 24 0 4 .int false := ⟨RX0, TX0, 6, rfl, by decide, (fun w h => tl_inW (inlX0 w h)), (inR4 _ (List.mem_of_getElem? (i := 1) rfl)), tyX0_ok, nmX0, rfl, rfl, fun _ => rfl⟩
theorem ffX0_28 : tl_FF RX0 28 0 5 .int false := ⟨RX0, TX0, 6, rfl, by decide, (fun w h => tl_inW (inlX0 w h)), (inR4 _ (List.mem_of_getElem? (i := 2) rfl)), tyX0_ok, nmX0, rfl, rfl, fun _ => rfl⟩
theorem cwX3_56 : tl_CW RX3 56 yJ7_fill_53178 mJ7_fill_53178 2 ∧ Cond.static yJ7_fill_53178 ∈ tl_W := ⟨⟨(inR4 _ (List.mem_of_getElem? (i := 3) rfl)), (inR3 _ (List.mem_of_getElem? (i := 11) rfl)), (inR3 _ (List.mem_of_getElem? (i := 12) rfl)), by decide, by decide, by decide +kernel⟩, (inR3 _ (List.mem_of_getElem? (i := 10) rfl))⟩
theorem cwL_12 : tl_CW RL 12 yX4_init mX4_init 0 ∧ Cond.instanceMethod yX4_init ∈ tl_W ∧ yX4_init.name = "<init>" ∧ mX4_init.2.2.2.1 = none := ⟨⟨(inR4 _ (List.mem_of_getElem? (i := 4) rfl)), (inR1 _ (List.mem_of_getElem? (i := 5) rfl)), (inR4 _ (List.mem_of_getElem? (i := 6) rfl)), by decide, by decide, by decide +kernel⟩, (inR4 _ (List.mem_of_getElem? (i := 5) rfl)), rfl, rfl⟩
theorem moX4_1 : Cond.methodLink RX4 1 objectInit ∈ tl_W := (inR4 _ (List.mem_of_getElem? (i := 7) rfl))
theorem ffX4_7 : tl_FF RX4 7 4 0 (.array .int) true := ⟨RX4, TX4, 35, rfl, by decide, (fun w h => tl_inW (inlX4 w h)), (inR4 _ (List.mem_of_getElem? (i := 8) rfl)), tyX4_ok, nmX4, rfl, rfl, fun _ => rfl⟩
theorem ffX4_13 : tl_FF RX4 13 4 1 (.array .int) true := ⟨RX4, TX4, 35, rfl, by decide, (fun w h => tl_inW (inlX4 w h)), (inR4 _ (List.mem_of_getElem? (i := 9) rfl)), tyX4_ok, nmX4, rfl, rfl, fun _ => rfl⟩
theorem ffX4_16 : tl_FF RX4 16 4 2 (.array .int) true := ⟨RX4, TX4, 35, rfl, by decide, (fun w h => tl_inW (inlX4 w h)), (inR4 _ (List.mem_of_getElem? (i := 10) rfl)), tyX4_ok, nmX4, rfl, rfl, fun _ => rfl⟩
theorem ffX4_19 : tl_FF RX4 19 4 3 (.array .int) true := ⟨RX4, TX4, 35, rfl, by decide, (fun w h => tl_inW (inlX4 w h)), (inR4 _ (List.mem_of_getElem? (i := 11) rfl)), tyX4_ok, nmX4, rfl, rfl, fun _ => rfl⟩
theorem ffX4_22 : tl_FF RX4 22 4 4 (.array .int) true := ⟨RX4, TX4, 35, rfl, by decide, (fun w h => tl_inW (inlX4 w h)), (inR4 _ (List.mem_of_getElem? (i := 12) rfl)), tyX4_ok, nmX4, rfl, rfl, fun _ => rfl⟩
theorem ffX4_25 : tl_FF RX4 25 4 5 (.array .boolean) true := ⟨RX4, TX4, 35, rfl, by decide, (fun w h => tl_inW (inlX4 w h)), (inR4 _ (List.mem_of_getElem? (i := 14) rfl)), tyX4_ok, nmX4, rfl, rfl, fun _ => rfl⟩
theorem ffX4_29 : tl_FF RX4 29 4 6 (.array .int) true := ⟨RX4, TX4, 35, rfl, by decide, (fun w h => tl_inW (inlX4 w h)), (inR4 _ (List.mem_of_getElem? (i := 15) rfl)), tyX4_ok, nmX4, rfl, rfl, fun _ => rfl⟩
theorem ffX4_32 : tl_FF RX4 32 4 7 (.array .int) true := ⟨RX4, TX4, 35, rfl, by decide, (fun w h => tl_inW (inlX4 w h)), (inR4 _ (List.mem_of_getElem? (i := 16) rfl)), tyX4_ok, nmX4, rfl, rfl, fun _ => rfl⟩
theorem ffX4_35 : tl_FF RX4 35 4 9 (.array .boolean) true := ⟨RX4, TX4, 35, rfl, by decide, (fun w h => tl_inW (inlX4 w h)), (inR4 _ (List.mem_of_getElem? (i := 17) rfl)), tyX4_ok, nmX4, rfl, rfl, fun _ => rfl⟩
theorem ffX4_38 : tl_FF RX4 38 4 10 (.array .int) true := ⟨RX4, TX4, 35, rfl, by decide, (fun w h => tl_inW (inlX4 w h)), (inR4 _ (List.mem_of_getElem? (i := 18) rfl)), tyX4_ok, nmX4, rfl, rfl, fun _ => rfl⟩
theorem ffX4_41 : tl_FF RX4 41 4 11 (.array .int) true := ⟨RX4, TX4, 35, rfl, by decide, (fun w h => tl_inW (inlX4 w h)), (inR4 _ (List.mem_of_getElem? (i := 19) rfl)), tyX4_ok, nmX4, rfl, rfl, fun _ => rfl⟩
theorem ffX4_44 : tl_FF RX4 44 4 14 (.array .boolean) true := ⟨RX4, TX4, 35, rfl, by decide, (fun w h => tl_inW (inlX4 w h)), (inR4 _ (List.mem_of_getElem? (i := 20) rfl)), tyX4_ok, nmX4, rfl, rfl, fun _ => rfl⟩
theorem ffX4_47 : tl_FF RX4 47 4 15 (.array .long) true := ⟨RX4, TX4, 35, rfl, by decide, (fun w h => tl_inW (inlX4 w h)), (inR4 _ (List.mem_of_getElem? (i := 22) rfl)), tyX4_ok, nmX4, rfl, rfl, fun _ => rfl⟩
theorem ffX4_51 : tl_FF RX4 51 4 16 (.array .int) true := ⟨RX4, TX4, 35, rfl, by decide, (fun w h => tl_inW (inlX4 w h)), (inR4 _ (List.mem_of_getElem? (i := 23) rfl)), tyX4_ok, nmX4, rfl, rfl, fun _ => rfl⟩
theorem ffX4_54 : tl_FF RX4 54 4 17 (.array .int) true := ⟨RX4, TX4, 35, rfl, by decide, (fun w h => tl_inW (inlX4 w h)), (inR5 _ (List.mem_of_getElem? (i := 0) rfl)), tyX4_ok, nmX4, rfl, rfl, fun _ => rfl⟩
theorem ffX4_57 : tl_FF RX4 57 4 18 (.array .int) true := ⟨RX4, TX4, 35, rfl, by decide, (fun w h => tl_inW (inlX4 w h)), (inR5 _ (List.mem_of_getElem? (i := 1) rfl)), tyX4_ok, nmX4, rfl, rfl, fun _ => rfl⟩
theorem ffX4_60 : tl_FF RX4 60 4 19 (.array .long) true := ⟨RX4, TX4, 35, rfl, by decide, (fun w h => tl_inW (inlX4 w h)), (inR5 _ (List.mem_of_getElem? (i := 2) rfl)), tyX4_ok, nmX4, rfl, rfl, fun _ => rfl⟩
theorem ffX4_63 : tl_FF RX4 63 4 20 (.array .int) true := ⟨RX4, TX4, 35, rfl, by decide, (fun w h => tl_inW (inlX4 w h)), (inR5 _ (List.mem_of_getElem? (i := 3) rfl)), tyX4_ok, nmX4, rfl, rfl, fun _ => rfl⟩
theorem ffX4_66 : tl_FF RX4 66 4 21 (.array .int) true := ⟨RX4, TX4, 35, rfl, by decide, (fun w h => tl_inW (inlX4 w h)), (inR5 _ (List.mem_of_getElem? (i := 4) rfl)), tyX4_ok, nmX4, rfl, rfl, fun _ => rfl⟩
theorem ffX4_69 : tl_FF RX4 69 4 22 (.array .int) true := ⟨RX4, TX4, 35, rfl, by decide, (fun w h => tl_inW (inlX4 w h)), (inR5 _ (List.mem_of_getElem? (i := 5) rfl)), tyX4_ok, nmX4, rfl, rfl, fun _ => rfl⟩
theorem ffX4_72 : tl_FF RX4 72 4 26 (.array .int) true := ⟨RX4, TX4, 35, rfl, by decide, (fun w h => tl_inW (inlX4 w h)), (inR5 _ (List.mem_of_getElem? (i := 6) rfl)), tyX4_ok, nmX4, rfl, rfl, fun _ => rfl⟩
theorem ffX4_75 : tl_FF RX4 75 4 28 (.array .long) true := ⟨RX4, TX4, 35, rfl, by decide, (fun w h => tl_inW (inlX4 w h)), (inR5 _ (List.mem_of_getElem? (i := 7) rfl)), tyX4_ok, nmX4, rfl, rfl, fun _ => rfl⟩
theorem clX4_78 : Cond.constantLong RX4 78 (-4294967296) ∈ tl_W := (inR5 _ (List.mem_of_getElem? (i := 8) rfl))
theorem clX4_80 : Cond.constantLong RX4 80 (-281470681808896) ∈ tl_W := (inR5 _ (List.mem_of_getElem? (i := 9) rfl))
theorem clX4_82 : Cond.constantLong RX4 82 (-71777214294589696) ∈ tl_W := (inR5 _ (List.mem_of_getElem? (i := 10) rfl))
theorem clX4_84 : Cond.constantLong RX4 84 (-1085102592571150096) ∈ tl_W := (inR5 _ (List.mem_of_getElem? (i := 11) rfl))
theorem clX4_86 : Cond.constantLong RX4 86 (-3689348814741910324) ∈ tl_W := (inR5 _ (List.mem_of_getElem? (i := 12) rfl))
theorem clX4_88 : Cond.constantLong RX4 88 (-6148914691236517206) ∈ tl_W := (inR5 _ (List.mem_of_getElem? (i := 13) rfl))
theorem ffX4_90 : tl_FF RX4 90 4 29 (.array .long) true := ⟨RX4, TX4, 35, rfl, by decide, (fun w h => tl_inW (inlX4 w h)), (inR5 _ (List.mem_of_getElem? (i := 14) rfl)), tyX4_ok, nmX4, rfl, rfl, fun _ => rfl⟩
theorem ffX4_93 : tl_FF RX4 93 4 30 (.array .boolean) true := ⟨RX4, TX4, 35, rfl, by decide, (fun w h => tl_inW (inlX4 w h)), (inR5 _ (List.mem_of_getElem? (i := 15) rfl)), tyX4_ok, nmX4, rfl, rfl, fun _ => rfl⟩
theorem ffX4_96 : tl_FF RX4 96 4 31 (.array .int) true := ⟨RX4, TX4, 35, rfl, by decide, (fun w h => tl_inW (inlX4 w h)), (inR5 _ (List.mem_of_getElem? (i := 16) rfl)), tyX4_ok, nmX4, rfl, rfl, fun _ => rfl⟩
theorem ffX4_99 : tl_FF RX4 99 4 32 (.array .int) true := ⟨RX4, TX4, 35, rfl, by decide, (fun w h => tl_inW (inlX4 w h)), (inR5 _ (List.mem_of_getElem? (i := 17) rfl)), tyX4_ok, nmX4, rfl, rfl, fun _ => rfl⟩
theorem ffX4_102 : tl_FF RX4 102 4 8 .int false := ⟨RX4, TX4, 35, rfl, by decide, (fun w h => tl_inW (inlX4 w h)), (inR5 _ (List.mem_of_getElem? (i := 18) rfl)), tyX4_ok, nmX4, rfl, rfl, fun _ => rfl⟩
theorem ffX4_106 : tl_FF RX4 106 4 33 .int false := ⟨RX4, TX4, 35, rfl, by decide, (fun w h => tl_inW (inlX4 w h)), (inR5 _ (List.mem_of_getElem? (i := 19) rfl)), tyX4_ok, nmX4, rfl, rfl, fun _ => rfl⟩
theorem ffX4_109 : tl_FF RX4 109 4 34 .int false := ⟨RX4, TX4, 35, rfl, by decide, (fun w h => tl_inW (inlX4 w h)), (inR5 _ (List.mem_of_getElem? (i := 20) rfl)), tyX4_ok, nmX4, rfl, rfl, fun _ => rfl⟩
theorem cwL_13 : tl_VW RL 13 yX3_gate mX3_gate 5 3 := ⟨⟨(inR5 _ (List.mem_of_getElem? (i := 21) rfl)), (inR1 _ (List.mem_of_getElem? (i := 2) rfl)), (inR6 _ (List.mem_of_getElem? (i := 0) rfl)), by decide, by decide, by decide +kernel⟩, (inR5 _ (List.mem_of_getElem? (i := 22) rfl)), (inR5 _ (List.mem_of_getElem? (i := 23) rfl)), _, rfl, rfl⟩
theorem cwX3_62 : tl_CW RX3 62 yX3_isNet mX3_isNet 1 ∧ Cond.static yX3_isNet ∈ tl_W := ⟨⟨(inR6 _ (List.mem_of_getElem? (i := 1) rfl)), (inR1 _ (List.mem_of_getElem? (i := 2) rfl)), (inR6 _ (List.mem_of_getElem? (i := 3) rfl)), by decide, by decide, by decide +kernel⟩, (inR6 _ (List.mem_of_getElem? (i := 2) rfl))⟩
theorem cwX3_66 : tl_VW RX3 66 yX0_hasOperands mX0_hasOperands 4 0 := ⟨⟨(inR6 _ (List.mem_of_getElem? (i := 4) rfl)), (inR2 _ (List.mem_of_getElem? (i := 8) rfl)), (inR6 _ (List.mem_of_getElem? (i := 7) rfl)), by decide, by decide, by decide +kernel⟩, (inR6 _ (List.mem_of_getElem? (i := 5) rfl)), (inR6 _ (List.mem_of_getElem? (i := 6) rfl)), _, rfl, rfl⟩
theorem cwX0_34 : tl_VW RX0 34 yX0_hasGate mX0_hasGate 1 0 := ⟨⟨(inR6 _ (List.mem_of_getElem? (i := 8) rfl)), (inR2 _ (List.mem_of_getElem? (i := 8) rfl)), (inR6 _ (List.mem_of_getElem? (i := 11) rfl)), by decide, by decide, by decide +kernel⟩, (inR6 _ (List.mem_of_getElem? (i := 9) rfl)), (inR6 _ (List.mem_of_getElem? (i := 10) rfl)), _, rfl, rfl⟩
theorem cwX3_70 : tl_CW RX3 70 yX3_isVariable mX3_isVariable 1 ∧ Cond.static yX3_isVariable ∈ tl_W := ⟨⟨(inR6 _ (List.mem_of_getElem? (i := 12) rfl)), (inR1 _ (List.mem_of_getElem? (i := 2) rfl)), (inR6 _ (List.mem_of_getElem? (i := 14) rfl)), by decide, by decide, by decide +kernel⟩, (inR6 _ (List.mem_of_getElem? (i := 13) rfl))⟩
theorem cwX3_73 : tl_VW RX3 73 yX0_addGate mX0_addGate 4 0 := ⟨⟨(inR6 _ (List.mem_of_getElem? (i := 15) rfl)), (inR2 _ (List.mem_of_getElem? (i := 8) rfl)), (inR6 _ (List.mem_of_getElem? (i := 18) rfl)), by decide, by decide, by decide +kernel⟩, (inR6 _ (List.mem_of_getElem? (i := 16) rfl)), (inR6 _ (List.mem_of_getElem? (i := 17) rfl)), _, rfl, rfl⟩
theorem cwL_17 : tl_VW RL 17 yX4_gate mX4_gate 5 4 := ⟨⟨(inR6 _ (List.mem_of_getElem? (i := 19) rfl)), (inR1 _ (List.mem_of_getElem? (i := 5) rfl)), (inR6 _ (List.mem_of_getElem? (i := 22) rfl)), by decide, by decide, by decide +kernel⟩, (inR6 _ (List.mem_of_getElem? (i := 20) rfl)), (inR6 _ (List.mem_of_getElem? (i := 21) rfl)), _, rfl, rfl⟩
theorem cwX4_116 : tl_CW RX4 116 yX4_isNet mX4_isNet 1 ∧ Cond.static yX4_isNet ∈ tl_W := ⟨⟨(inR6 _ (List.mem_of_getElem? (i := 23) rfl)), (inR1 _ (List.mem_of_getElem? (i := 5) rfl)), (inR7 _ (List.mem_of_getElem? (i := 1) rfl)), by decide, by decide, by decide +kernel⟩, (inR7 _ (List.mem_of_getElem? (i := 0) rfl))⟩
theorem cwX4_112 : tl_CW RX4 112 yX4_in mX4_in 3 ∧ Cond.static yX4_in ∈ tl_W := ⟨⟨(inR7 _ (List.mem_of_getElem? (i := 2) rfl)), (inR1 _ (List.mem_of_getElem? (i := 5) rfl)), (inR7 _ (List.mem_of_getElem? (i := 4) rfl)), by decide, by decide, by decide +kernel⟩, (inR7 _ (List.mem_of_getElem? (i := 3) rfl))⟩
theorem cwX4_120 : tl_CW RX4 120 yX4_wants mX4_wants 1 ∧ Cond.static yX4_wants ∈ tl_W := ⟨⟨(inR7 _ (List.mem_of_getElem? (i := 5) rfl)), (inR1 _ (List.mem_of_getElem? (i := 5) rfl)), (inR7 _ (List.mem_of_getElem? (i := 7) rfl)), by decide, by decide, by decide +kernel⟩, (inR7 _ (List.mem_of_getElem? (i := 6) rfl))⟩
theorem cwX4_124 : tl_VW RX4 124 yX4_isGate mX4_isGate 2 4 := ⟨⟨(inR7 _ (List.mem_of_getElem? (i := 8) rfl)), (inR1 _ (List.mem_of_getElem? (i := 5) rfl)), (inR7 _ (List.mem_of_getElem? (i := 11) rfl)), by decide, by decide, by decide +kernel⟩, (inR7 _ (List.mem_of_getElem? (i := 9) rfl)), (inR7 _ (List.mem_of_getElem? (i := 10) rfl)), _, rfl, rfl⟩
theorem cwL_18 : tl_VW RL 18 yX3_output mX3_output 2 3 := ⟨⟨(inR7 _ (List.mem_of_getElem? (i := 12) rfl)), (inR1 _ (List.mem_of_getElem? (i := 2) rfl)), (inR7 _ (List.mem_of_getElem? (i := 15) rfl)), by decide, by decide, by decide +kernel⟩, (inR7 _ (List.mem_of_getElem? (i := 13) rfl)), (inR7 _ (List.mem_of_getElem? (i := 14) rfl)), _, rfl, rfl⟩
theorem cwX3_77 : tl_VW RX3 77 yX0_hasGate mX0_hasGate 1 0 := ⟨⟨(inR7 _ (List.mem_of_getElem? (i := 16) rfl)), (inR2 _ (List.mem_of_getElem? (i := 8) rfl)), (inR6 _ (List.mem_of_getElem? (i := 11) rfl)), by decide, by decide, by decide +kernel⟩, (inR6 _ (List.mem_of_getElem? (i := 9) rfl)), (inR6 _ (List.mem_of_getElem? (i := 10) rfl)), _, rfl, rfl⟩
theorem cwX3_80 : tl_VW RX3 80 yX0_addOutput mX0_addOutput 1 0 := ⟨⟨(inR7 _ (List.mem_of_getElem? (i := 17) rfl)), (inR2 _ (List.mem_of_getElem? (i := 8) rfl)), (inR7 _ (List.mem_of_getElem? (i := 20) rfl)), by decide, by decide, by decide +kernel⟩, (inR7 _ (List.mem_of_getElem? (i := 18) rfl)), (inR7 _ (List.mem_of_getElem? (i := 19) rfl)), _, rfl, rfl⟩
theorem cwL_22 : tl_VW RL 22 yX4_output mX4_output 2 4 := ⟨⟨(inR7 _ (List.mem_of_getElem? (i := 21) rfl)), (inR1 _ (List.mem_of_getElem? (i := 5) rfl)), (inR8 _ (List.mem_of_getElem? (i := 0) rfl)), by decide, by decide, by decide +kernel⟩, (inR7 _ (List.mem_of_getElem? (i := 22) rfl)), (inR7 _ (List.mem_of_getElem? (i := 23) rfl)), _, rfl, rfl⟩
theorem cwL_23 : tl_VW RL 23 yX3_clear mX3_clear 1 3 := ⟨⟨(inR8 _ (List.mem_of_getElem? (i := 1) rfl)), (inR1 _ (List.mem_of_getElem? (i := 2) rfl)), (inR8 _ (List.mem_of_getElem? (i := 4) rfl)), by decide, by decide, by decide +kernel⟩, (inR8 _ (List.mem_of_getElem? (i := 2) rfl)), (inR8 _ (List.mem_of_getElem? (i := 3) rfl)), _, rfl, rfl⟩
theorem cwX3_84 : tl_VW RX3 84 yX0_empty mX0_empty 0 0 := ⟨⟨(inR8 _ (List.mem_of_getElem? (i := 5) rfl)), (inR2 _ (List.mem_of_getElem? (i := 8) rfl)), (inR8 _ (List.mem_of_getElem? (i := 8) rfl)), by decide, by decide, by decide +kernel⟩, (inR8 _ (List.mem_of_getElem? (i := 6) rfl)), (inR8 _ (List.mem_of_getElem? (i := 7) rfl)), _, rfl, rfl⟩
theorem cwL_27 : tl_VW RL 27 yX4_clear mX4_clear 1 4 := ⟨⟨(inR8 _ (List.mem_of_getElem? (i := 9) rfl)), (inR1 _ (List.mem_of_getElem? (i := 5) rfl)), (inR8 _ (List.mem_of_getElem? (i := 12) rfl)), by decide, by decide, by decide +kernel⟩, (inR8 _ (List.mem_of_getElem? (i := 10) rfl)), (inR8 _ (List.mem_of_getElem? (i := 11) rfl)), _, rfl, rfl⟩
theorem cwL_28 : tl_VW RL 28 yX3_gives mX3_gives 3 3 := ⟨⟨(inR8 _ (List.mem_of_getElem? (i := 13) rfl)), (inR1 _ (List.mem_of_getElem? (i := 2) rfl)), (inR8 _ (List.mem_of_getElem? (i := 16) rfl)), by decide, by decide, by decide +kernel⟩, (inR8 _ (List.mem_of_getElem? (i := 14) rfl)), (inR8 _ (List.mem_of_getElem? (i := 15) rfl)), _, rfl, rfl⟩
theorem cwX3_88 : tl_VW RX3 88 yX0_hasOutput mX0_hasOutput 1 0 := ⟨⟨(inR8 _ (List.mem_of_getElem? (i := 17) rfl)), (inR2 _ (List.mem_of_getElem? (i := 8) rfl)), (inR8 _ (List.mem_of_getElem? (i := 20) rfl)), by decide, by decide, by decide +kernel⟩, (inR8 _ (List.mem_of_getElem? (i := 18) rfl)), (inR8 _ (List.mem_of_getElem? (i := 19) rfl)), _, rfl, rfl⟩
theorem cwX3_91 : tl_CW RX3 91 yX3_isAssignment mX3_isAssignment 1 ∧ Cond.static yX3_isAssignment ∈ tl_W := ⟨⟨(inR8 _ (List.mem_of_getElem? (i := 21) rfl)), (inR1 _ (List.mem_of_getElem? (i := 2) rfl)), (inR8 _ (List.mem_of_getElem? (i := 23) rfl)), by decide, by decide, by decide +kernel⟩, (inR8 _ (List.mem_of_getElem? (i := 22) rfl))⟩
theorem cwX3_94 : tl_VW RX3 94 yX0_outputValue mX0_outputValue 2 0 := ⟨⟨(inR9 _ (List.mem_of_getElem? (i := 0) rfl)), (inR2 _ (List.mem_of_getElem? (i := 8) rfl)), (inR9 _ (List.mem_of_getElem? (i := 3) rfl)), by decide, by decide, by decide +kernel⟩, (inR9 _ (List.mem_of_getElem? (i := 1) rfl)), (inR9 _ (List.mem_of_getElem? (i := 2) rfl)), _, rfl, rfl⟩
theorem cwX0_38 : tl_VW RX0 38 yX0_gateValue mX0_gateValue 2 0 := ⟨⟨(inR9 _ (List.mem_of_getElem? (i := 4) rfl)), (inR2 _ (List.mem_of_getElem? (i := 8) rfl)), (inR9 _ (List.mem_of_getElem? (i := 7) rfl)), by decide, by decide, by decide +kernel⟩, (inR9 _ (List.mem_of_getElem? (i := 5) rfl)), (inR9 _ (List.mem_of_getElem? (i := 6) rfl)), _, rfl, rfl⟩
theorem cwX0_42 : tl_VW RX0 42 yX0_operand mX0_operand 2 0 := ⟨⟨(inR9 _ (List.mem_of_getElem? (i := 8) rfl)), (inR2 _ (List.mem_of_getElem? (i := 8) rfl)), (inR9 _ (List.mem_of_getElem? (i := 11) rfl)), by decide, by decide, by decide +kernel⟩, (inR9 _ (List.mem_of_getElem? (i := 9) rfl)), (inR9 _ (List.mem_of_getElem? (i := 10) rfl)), _, rfl, rfl⟩
theorem cwL_32 : tl_VW RL 32 yX4_gives mX4_gives 3 4 := ⟨⟨(inR9 _ (List.mem_of_getElem? (i := 12) rfl)), (inR1 _ (List.mem_of_getElem? (i := 5) rfl)), (inR9 _ (List.mem_of_getElem? (i := 15) rfl)), by decide, by decide, by decide +kernel⟩, (inR9 _ (List.mem_of_getElem? (i := 13) rfl)), (inR9 _ (List.mem_of_getElem? (i := 14) rfl)), _, rfl, rfl⟩
theorem cwX4_128 : tl_VW RX4 128 yX4_isOutput mX4_isOutput 2 4 := ⟨⟨(inR9 _ (List.mem_of_getElem? (i := 16) rfl)), (inR1 _ (List.mem_of_getElem? (i := 5) rfl)), (inR9 _ (List.mem_of_getElem? (i := 19) rfl)), by decide, by decide, by decide +kernel⟩, (inR9 _ (List.mem_of_getElem? (i := 17) rfl)), (inR9 _ (List.mem_of_getElem? (i := 18) rfl)), _, rfl, rfl⟩
theorem cwX4_131 : tl_CW RX4 131 yX4_combined mX4_combined 3 ∧ Cond.static yX4_combined ∈ tl_W := ⟨⟨(inR9 _ (List.mem_of_getElem? (i := 20) rfl)), (inR1 _ (List.mem_of_getElem? (i := 5) rfl)), (inR9 _ (List.mem_of_getElem? (i := 22) rfl)), by decide, by decide, by decide +kernel⟩, (inR9 _ (List.mem_of_getElem? (i := 21) rfl))⟩
theorem cwL_33 : tl_VW RL 33 yX3_order mX3_order 1 3 := ⟨⟨(inR9 _ (List.mem_of_getElem? (i := 23) rfl)), (inR1 _ (List.mem_of_getElem? (i := 2) rfl)), (inR10 _ (List.mem_of_getElem? (i := 2) rfl)), by decide, by decide, by decide +kernel⟩, (inR10 _ (List.mem_of_getElem? (i := 0) rfl)), (inR10 _ (List.mem_of_getElem? (i := 1) rfl)), _, rfl, rfl⟩
theorem cwX3_98 : tl_VW RX3 98 yX3_heldCount mX3_heldCount 0 3 := ⟨⟨(inR10 _ (List.mem_of_getElem? (i := 3) rfl)), (inR1 _ (List.mem_of_getElem? (i := 2) rfl)), (inR10 _ (List.mem_of_getElem? (i := 6) rfl)), by decide, by decide, by decide +kernel⟩, (inR10 _ (List.mem_of_getElem? (i := 4) rfl)), (inR10 _ (List.mem_of_getElem? (i := 5) rfl)), _, rfl, rfl⟩
theorem cwX3_101 : tl_VW RX3 101 yX1_forget mX1_forget 0 1 := ⟨⟨(inR10 _ (List.mem_of_getElem? (i := 7) rfl)), (inR1 _ (List.mem_of_getElem? (i := 16) rfl)), (inR10 _ (List.mem_of_getElem? (i := 10) rfl)), by decide, by decide, by decide +kernel⟩, (inR10 _ (List.mem_of_getElem? (i := 8) rfl)), (inR10 _ (List.mem_of_getElem? (i := 9) rfl)), _, rfl, rfl⟩
theorem cwX1_22 : tl_CW RX1 22 yJ7_fill_53178 mJ7_fill_53178 2 ∧ Cond.static yJ7_fill_53178 ∈ tl_W := ⟨⟨(inR10 _ (List.mem_of_getElem? (i := 11) rfl)), (inR3 _ (List.mem_of_getElem? (i := 11) rfl)), (inR3 _ (List.mem_of_getElem? (i := 12) rfl)), by decide, by decide, by decide +kernel⟩, (inR3 _ (List.mem_of_getElem? (i := 10) rfl))⟩
theorem cwX3_104 : tl_VW RX3 104 yX0_meetVariables mX0_meetVariables 1 0 := ⟨⟨(inR10 _ (List.mem_of_getElem? (i := 12) rfl)), (inR2 _ (List.mem_of_getElem? (i := 8) rfl)), (inR10 _ (List.mem_of_getElem? (i := 15) rfl)), by decide, by decide, by decide +kernel⟩, (inR10 _ (List.mem_of_getElem? (i := 13) rfl)), (inR10 _ (List.mem_of_getElem? (i := 14) rfl)), _, rfl, rfl⟩
theorem cwX0_48 : tl_CW RX0 48 yJ7_fill_53178 mJ7_fill_53178 2 ∧ Cond.static yJ7_fill_53178 ∈ tl_W := ⟨⟨(inR10 _ (List.mem_of_getElem? (i := 16) rfl)), (inR3 _ (List.mem_of_getElem? (i := 11) rfl)), (inR3 _ (List.mem_of_getElem? (i := 12) rfl)), by decide, by decide, by decide +kernel⟩, (inR3 _ (List.mem_of_getElem? (i := 10) rfl))⟩
theorem cwX0_58 : tl_VW RX0 58 yX0_goInto mX0_goInto 3 0 := ⟨⟨(inR10 _ (List.mem_of_getElem? (i := 17) rfl)), (inR2 _ (List.mem_of_getElem? (i := 8) rfl)), (inR10 _ (List.mem_of_getElem? (i := 20) rfl)), by decide, by decide, by decide +kernel⟩, (inR10 _ (List.mem_of_getElem? (i := 18) rfl)), (inR10 _ (List.mem_of_getElem? (i := 19) rfl)), _, rfl, rfl⟩
theorem cwX0_62 : tl_VW RX0 62 yX1_meet mX1_meet 1 1 := ⟨⟨(inR10 _ (List.mem_of_getElem? (i := 21) rfl)), (inR1 _ (List.mem_of_getElem? (i := 16) rfl)), (inR11 _ (List.mem_of_getElem? (i := 0) rfl)), by decide, by decide, by decide +kernel⟩, (inR10 _ (List.mem_of_getElem? (i := 22) rfl)), (inR10 _ (List.mem_of_getElem? (i := 23) rfl)), _, rfl, rfl⟩
theorem cwX1_28 : tl_VW RX1 28 yX1_put mX1_put 2 1 := ⟨⟨(inR11 _ (List.mem_of_getElem? (i := 1) rfl)), (inR1 _ (List.mem_of_getElem? (i := 16) rfl)), (inR11 _ (List.mem_of_getElem? (i := 4) rfl)), by decide, by decide, by decide +kernel⟩, (inR11 _ (List.mem_of_getElem? (i := 2) rfl)), (inR11 _ (List.mem_of_getElem? (i := 3) rfl)), _, rfl, rfl⟩
theorem cwX3_108 : tl_VW RX3 108 yX1_meetOthers mX1_meetOthers 0 1 := ⟨⟨(inR11 _ (List.mem_of_getElem? (i := 5) rfl)), (inR1 _ (List.mem_of_getElem? (i := 16) rfl)), (inR11 _ (List.mem_of_getElem? (i := 8) rfl)), by decide, by decide, by decide +kernel⟩, (inR11 _ (List.mem_of_getElem? (i := 6) rfl)), (inR11 _ (List.mem_of_getElem? (i := 7) rfl)), _, rfl, rfl⟩
theorem cwX1_32 : tl_VW RX1 32 yX1_meet mX1_meet 1 1 := ⟨⟨(inR11 _ (List.mem_of_getElem? (i := 9) rfl)), (inR1 _ (List.mem_of_getElem? (i := 16) rfl)), (inR11 _ (List.mem_of_getElem? (i := 0) rfl)), by decide, by decide, by decide +kernel⟩, (inR10 _ (List.mem_of_getElem? (i := 22) rfl)), (inR10 _ (List.mem_of_getElem? (i := 23) rfl)), _, rfl, rfl⟩
theorem cwL_36 : tl_VW RL 36 yX4_order mX4_order 1 4 := ⟨⟨(inR11 _ (List.mem_of_getElem? (i := 10) rfl)), (inR1 _ (List.mem_of_getElem? (i := 5) rfl)), (inR11 _ (List.mem_of_getElem? (i := 13) rfl)), by decide, by decide, by decide +kernel⟩, (inR11 _ (List.mem_of_getElem? (i := 11) rfl)), (inR11 _ (List.mem_of_getElem? (i := 12) rfl)), _, rfl, rfl⟩
theorem ffX4_138 : tl_FF RX4 138 4 13 .int false := ⟨RX4, TX4, 35, rfl, by decide, (fun w h => tl_inW (inlX4 w h)), (inR11 _ (List.mem_of_getElem? (i := 14) rfl)), tyX4_ok, nmX4, rfl, rfl, fun _ => rfl⟩
theorem ffX4_135 : tl_FF RX4 135 4 12 .int false := ⟨RX4, TX4, 35, rfl, by decide, (fun w h => tl_inW (inlX4 w h)), (inR11 _ (List.mem_of_getElem? (i := 15) rfl)), tyX4_ok, nmX4, rfl, rfl, fun _ => rfl⟩
theorem cwX4_141 : tl_VW RX4 141 yX4_isEmpty mX4_isEmpty 0 4 := ⟨⟨(inR11 _ (List.mem_of_getElem? (i := 16) rfl)), (inR1 _ (List.mem_of_getElem? (i := 5) rfl)), (inR11 _ (List.mem_of_getElem? (i := 19) rfl)), by decide, by decide, by decide +kernel⟩, (inR11 _ (List.mem_of_getElem? (i := 17) rfl)), (inR11 _ (List.mem_of_getElem? (i := 18) rfl)), _, rfl, rfl⟩
theorem cwX4_145 : tl_VW RX4 145 yX4_go mX4_go 2 4 := ⟨⟨(inR11 _ (List.mem_of_getElem? (i := 20) rfl)), (inR1 _ (List.mem_of_getElem? (i := 5) rfl)), (inR11 _ (List.mem_of_getElem? (i := 23) rfl)), by decide, by decide, by decide +kernel⟩, (inR11 _ (List.mem_of_getElem? (i := 21) rfl)), (inR11 _ (List.mem_of_getElem? (i := 22) rfl)), _, rfl, rfl⟩
theorem cwL_37 : tl_VW RL 37 yX3_move mX3_move 2 3 := ⟨⟨(inR12 _ (List.mem_of_getElem? (i := 0) rfl)), (inR1 _ (List.mem_of_getElem? (i := 2) rfl)), (inR12 _ (List.mem_of_getElem? (i := 3) rfl)), by decide, by decide, by decide +kernel⟩, (inR12 _ (List.mem_of_getElem? (i := 1) rfl)), (inR12 _ (List.mem_of_getElem? (i := 2) rfl)), _, rfl, rfl⟩
theorem cwX3_111 : tl_VW RX3 111 yX1_moveTo mX1_moveTo 2 1 := ⟨⟨(inR12 _ (List.mem_of_getElem? (i := 4) rfl)), (inR1 _ (List.mem_of_getElem? (i := 16) rfl)), (inR12 _ (List.mem_of_getElem? (i := 7) rfl)), by decide, by decide, by decide +kernel⟩, (inR12 _ (List.mem_of_getElem? (i := 5) rfl)), (inR12 _ (List.mem_of_getElem? (i := 6) rfl)), _, rfl, rfl⟩
theorem cwL_40 : tl_VW RL 40 yX4_move mX4_move 2 4 := ⟨⟨(inR12 _ (List.mem_of_getElem? (i := 8) rfl)), (inR1 _ (List.mem_of_getElem? (i := 5) rfl)), (inR12 _ (List.mem_of_getElem? (i := 11) rfl)), by decide, by decide, by decide +kernel⟩, (inR12 _ (List.mem_of_getElem? (i := 9) rfl)), (inR12 _ (List.mem_of_getElem? (i := 10) rfl)), _, rfl, rfl⟩
theorem cwL_41 : tl_VW RL 41 yX3_at mX3_at 1 3 := ⟨⟨(inR12 _ (List.mem_of_getElem? (i := 12) rfl)), (inR1 _ (List.mem_of_getElem? (i := 2) rfl)), (inR12 _ (List.mem_of_getElem? (i := 15) rfl)), by decide, by decide, by decide +kernel⟩, (inR12 _ (List.mem_of_getElem? (i := 13) rfl)), (inR12 _ (List.mem_of_getElem? (i := 14) rfl)), _, rfl, rfl⟩
theorem cwX3_114 : tl_VW RX3 114 yX1_variableAt mX1_variableAt 1 1 := ⟨⟨(inR12 _ (List.mem_of_getElem? (i := 16) rfl)), (inR1 _ (List.mem_of_getElem? (i := 16) rfl)), (inR12 _ (List.mem_of_getElem? (i := 19) rfl)), by decide, by decide, by decide +kernel⟩, (inR12 _ (List.mem_of_getElem? (i := 17) rfl)), (inR12 _ (List.mem_of_getElem? (i := 18) rfl)), _, rfl, rfl⟩
theorem cwL_44 : tl_VW RL 44 yX4_at mX4_at 1 4 := ⟨⟨(inR12 _ (List.mem_of_getElem? (i := 20) rfl)), (inR1 _ (List.mem_of_getElem? (i := 5) rfl)), (inR12 _ (List.mem_of_getElem? (i := 23) rfl)), by decide, by decide, by decide +kernel⟩, (inR12 _ (List.mem_of_getElem? (i := 21) rfl)), (inR12 _ (List.mem_of_getElem? (i := 22) rfl)), _, rfl, rfl⟩
theorem cwL_45 : tl_VW RL 45 yX3_room mX3_room 1 3 := ⟨⟨(inR13 _ (List.mem_of_getElem? (i := 0) rfl)), (inR1 _ (List.mem_of_getElem? (i := 2) rfl)), (inR13 _ (List.mem_of_getElem? (i := 3) rfl)), by decide, by decide, by decide +kernel⟩, (inR13 _ (List.mem_of_getElem? (i := 1) rfl)), (inR13 _ (List.mem_of_getElem? (i := 2) rfl)), _, rfl, rfl⟩
theorem cwX3_117 : tl_VW RX3 117 yX3_inUse mX3_inUse 0 3 := ⟨⟨(inR13 _ (List.mem_of_getElem? (i := 4) rfl)), (inR1 _ (List.mem_of_getElem? (i := 2) rfl)), (inR13 _ (List.mem_of_getElem? (i := 7) rfl)), by decide, by decide, by decide +kernel⟩, (inR13 _ (List.mem_of_getElem? (i := 5) rfl)), (inR13 _ (List.mem_of_getElem? (i := 6) rfl)), _, rfl, rfl⟩
theorem cwX3_155 : tl_VW RX3 155 yX3_collect mX3_collect 0 3 := ⟨⟨(inR13 _ (List.mem_of_getElem? (i := 8) rfl)), (inR1 _ (List.mem_of_getElem? (i := 2) rfl)), (inR13 _ (List.mem_of_getElem? (i := 11) rfl)), by decide, by decide, by decide +kernel⟩, (inR13 _ (List.mem_of_getElem? (i := 9) rfl)), (inR13 _ (List.mem_of_getElem? (i := 10) rfl)), _, rfl, rfl⟩
theorem cwX3_217 : tl_VW RX3 217 yX2_unmark mX2_unmark 0 2 := ⟨⟨(inR13 _ (List.mem_of_getElem? (i := 12) rfl)), (inR1 _ (List.mem_of_getElem? (i := 20) rfl)), (inR13 _ (List.mem_of_getElem? (i := 15) rfl)), by decide, by decide, by decide +kernel⟩, (inR13 _ (List.mem_of_getElem? (i := 13) rfl)), (inR13 _ (List.mem_of_getElem? (i := 14) rfl)), _, rfl, rfl⟩
theorem cwX3_220 : tl_VW RX3 220 yX2_mark mX2_mark 1 2 := ⟨⟨(inR13 _ (List.mem_of_getElem? (i := 16) rfl)), (inR1 _ (List.mem_of_getElem? (i := 20) rfl)), (inR13 _ (List.mem_of_getElem? (i := 19) rfl)), by decide, by decide, by decide +kernel⟩, (inR13 _ (List.mem_of_getElem? (i := 17) rfl)), (inR13 _ (List.mem_of_getElem? (i := 18) rfl)), _, rfl, rfl⟩
theorem cwX2_49 : tl_VW RX2 49 yX2_markWith mX2_markWith 3 2 := ⟨⟨(inR13 _ (List.mem_of_getElem? (i := 20) rfl)), (inR1 _ (List.mem_of_getElem? (i := 20) rfl)), (inR13 _ (List.mem_of_getElem? (i := 23) rfl)), by decide, by decide, by decide +kernel⟩, (inR13 _ (List.mem_of_getElem? (i := 21) rfl)), (inR13 _ (List.mem_of_getElem? (i := 22) rfl)), _, rfl, rfl⟩
theorem cwX3_224 : tl_VW RX3 224 yX2_sweep mX2_sweep 0 2 := ⟨⟨(inR14 _ (List.mem_of_getElem? (i := 0) rfl)), (inR1 _ (List.mem_of_getElem? (i := 20) rfl)), (inR3 _ (List.mem_of_getElem? (i := 8) rfl)), by decide, by decide, by decide +kernel⟩, (inR3 _ (List.mem_of_getElem? (i := 6) rfl)), (inR3 _ (List.mem_of_getElem? (i := 7) rfl)), _, rfl, rfl⟩
theorem cwX3_158 : tl_VW RX3 158 yX2_usedCount mX2_usedCount 0 2 := ⟨⟨(inR14 _ (List.mem_of_getElem? (i := 1) rfl)), (inR1 _ (List.mem_of_getElem? (i := 20) rfl)), (inR14 _ (List.mem_of_getElem? (i := 4) rfl)), by decide, by decide, by decide +kernel⟩, (inR14 _ (List.mem_of_getElem? (i := 2) rfl)), (inR14 _ (List.mem_of_getElem? (i := 3) rfl)), _, rfl, rfl⟩
theorem cwX3_120 : tl_VW RX3 120 yX2_changeLimit mX2_changeLimit 1 2 := ⟨⟨(inR14 _ (List.mem_of_getElem? (i := 5) rfl)), (inR1 _ (List.mem_of_getElem? (i := 20) rfl)), (inR14 _ (List.mem_of_getElem? (i := 8) rfl)), by decide, by decide, by decide +kernel⟩, (inR14 _ (List.mem_of_getElem? (i := 6) rfl)), (inR14 _ (List.mem_of_getElem? (i := 7) rfl)), _, rfl, rfl⟩
theorem cwL_48 : tl_VW RL 48 yX4_room mX4_room 1 4 := ⟨⟨(inR14 _ (List.mem_of_getElem? (i := 9) rfl)), (inR1 _ (List.mem_of_getElem? (i := 5) rfl)), (inR14 _ (List.mem_of_getElem? (i := 12) rfl)), by decide, by decide, by decide +kernel⟩, (inR14 _ (List.mem_of_getElem? (i := 10) rfl)), (inR14 _ (List.mem_of_getElem? (i := 11) rfl)), _, rfl, rfl⟩
theorem ffX4_149 : tl_FF RX4 149 4 24 .int false := ⟨RX4, TX4, 35, rfl, by decide, (fun w h => tl_inW (inlX4 w h)), (inR14 _ (List.mem_of_getElem? (i := 13) rfl)), tyX4_ok, nmX4, rfl, rfl, fun _ => rfl⟩
theorem cwL_49 : tl_VW RL 49 yX3_build mX3_build 3 3 := ⟨⟨(inR14 _ (List.mem_of_getElem? (i := 14) rfl)), (inR1 _ (List.mem_of_getElem? (i := 2) rfl)), (inR14 _ (List.mem_of_getElem? (i := 17) rfl)), by decide, by decide, by decide +kernel⟩, (inR14 _ (List.mem_of_getElem? (i := 15) rfl)), (inR14 _ (List.mem_of_getElem? (i := 16) rfl)), _, rfl, rfl⟩
theorem cwX3_123 : tl_CW RX3 123 yX3_isHandle mX3_isHandle 1 ∧ Cond.static yX3_isHandle ∈ tl_W := ⟨⟨(inR14 _ (List.mem_of_getElem? (i := 18) rfl)), (inR1 _ (List.mem_of_getElem? (i := 2) rfl)), (inR14 _ (List.mem_of_getElem? (i := 20) rfl)), by decide, by decide, by decide +kernel⟩, (inR14 _ (List.mem_of_getElem? (i := 19) rfl))⟩
theorem cwX3_126 : tl_VW RX3 126 yX3_beginSteps mX3_beginSteps 0 3 := ⟨⟨(inR14 _ (List.mem_of_getElem? (i := 21) rfl)), (inR1 _ (List.mem_of_getElem? (i := 2) rfl)), (inR15 _ (List.mem_of_getElem? (i := 0) rfl)), by decide, by decide, by decide +kernel⟩, (inR14 _ (List.mem_of_getElem? (i := 22) rfl)), (inR14 _ (List.mem_of_getElem? (i := 23) rfl)), _, rfl, rfl⟩
theorem cwX3_129 : tl_VW RX3 129 yX3_building mX3_building 2 3 := ⟨⟨(inR15 _ (List.mem_of_getElem? (i := 1) rfl)), (inR1 _ (List.mem_of_getElem? (i := 2) rfl)), (inR15 _ (List.mem_of_getElem? (i := 4) rfl)), by decide, by decide, by decide +kernel⟩, (inR15 _ (List.mem_of_getElem? (i := 2) rfl)), (inR15 _ (List.mem_of_getElem? (i := 3) rfl)), _, rfl, rfl⟩
theorem cwX3_227 : tl_VW RX3 227 yX0_findNeeds mX0_findNeeds 2 0 := ⟨⟨(inR15 _ (List.mem_of_getElem? (i := 5) rfl)), (inR2 _ (List.mem_of_getElem? (i := 8) rfl)), (inR15 _ (List.mem_of_getElem? (i := 8) rfl)), by decide, by decide, by decide +kernel⟩, (inR15 _ (List.mem_of_getElem? (i := 6) rfl)), (inR15 _ (List.mem_of_getElem? (i := 7) rfl)), _, rfl, rfl⟩
theorem cwX0_54 : tl_VW RX0 54 yX0_noteNeedsOf mX0_noteNeedsOf 2 0 := ⟨⟨(inR15 _ (List.mem_of_getElem? (i := 9) rfl)), (inR2 _ (List.mem_of_getElem? (i := 8) rfl)), (inR15 _ (List.mem_of_getElem? (i := 12) rfl)), by decide, by decide, by decide +kernel⟩, (inR15 _ (List.mem_of_getElem? (i := 10) rfl)), (inR15 _ (List.mem_of_getElem? (i := 11) rfl)), _, rfl, rfl⟩
theorem cwX3_231 : tl_VW RX3 231 yX0_kindOf mX0_kindOf 1 0 := ⟨⟨(inR15 _ (List.mem_of_getElem? (i := 13) rfl)), (inR2 _ (List.mem_of_getElem? (i := 8) rfl)), (inR15 _ (List.mem_of_getElem? (i := 16) rfl)), by decide, by decide, by decide +kernel⟩, (inR15 _ (List.mem_of_getElem? (i := 14) rfl)), (inR15 _ (List.mem_of_getElem? (i := 15) rfl)), _, rfl, rfl⟩
theorem cwX3_234 : tl_VW RX3 234 yX0_operand mX0_operand 2 0 := ⟨⟨(inR15 _ (List.mem_of_getElem? (i := 17) rfl)), (inR2 _ (List.mem_of_getElem? (i := 8) rfl)), (inR9 _ (List.mem_of_getElem? (i := 11) rfl)), by decide, by decide, by decide +kernel⟩, (inR9 _ (List.mem_of_getElem? (i := 9) rfl)), (inR9 _ (List.mem_of_getElem? (i := 10) rfl)), _, rfl, rfl⟩
theorem cwX3_136 : tl_VW RX3 136 yX3_variableStep mX3_variableStep 1 3 := ⟨⟨(inR15 _ (List.mem_of_getElem? (i := 18) rfl)), (inR1 _ (List.mem_of_getElem? (i := 2) rfl)), (inR15 _ (List.mem_of_getElem? (i := 21) rfl)), by decide, by decide, by decide +kernel⟩, (inR15 _ (List.mem_of_getElem? (i := 19) rfl)), (inR15 _ (List.mem_of_getElem? (i := 20) rfl)), _, rfl, rfl⟩
theorem cwX3_174 : tl_VW RX3 174 yX1_placeOf mX1_placeOf 1 1 := ⟨⟨(inR15 _ (List.mem_of_getElem? (i := 22) rfl)), (inR1 _ (List.mem_of_getElem? (i := 16) rfl)), (inR16 _ (List.mem_of_getElem? (i := 1) rfl)), by decide, by decide, by decide +kernel⟩, (inR15 _ (List.mem_of_getElem? (i := 23) rfl)), (inR16 _ (List.mem_of_getElem? (i := 0) rfl)), _, rfl, rfl⟩
theorem cwX3_206 : tl_VW RX3 206 yX2_makeVariable mX2_makeVariable 1 2 := ⟨⟨(inR16 _ (List.mem_of_getElem? (i := 2) rfl)), (inR1 _ (List.mem_of_getElem? (i := 20) rfl)), (inR16 _ (List.mem_of_getElem? (i := 5) rfl)), by decide, by decide, by decide +kernel⟩, (inR16 _ (List.mem_of_getElem? (i := 3) rfl)), (inR16 _ (List.mem_of_getElem? (i := 4) rfl)), _, rfl, rfl⟩
theorem cwX2_67 : tl_VW RX2 67 yX2_nodeFor mX2_nodeFor 3 2 := ⟨⟨(inR16 _ (List.mem_of_getElem? (i := 6) rfl)), (inR1 _ (List.mem_of_getElem? (i := 20) rfl)), (inR16 _ (List.mem_of_getElem? (i := 9) rfl)), by decide, by decide, by decide +kernel⟩, (inR16 _ (List.mem_of_getElem? (i := 7) rfl)), (inR16 _ (List.mem_of_getElem? (i := 8) rfl)), _, rfl, rfl⟩
theorem cwX3_203 : tl_VW RX3 203 yX3_measured mX3_measured 1 3 := ⟨⟨(inR16 _ (List.mem_of_getElem? (i := 10) rfl)), (inR1 _ (List.mem_of_getElem? (i := 2) rfl)), (inR16 _ (List.mem_of_getElem? (i := 13) rfl)), by decide, by decide, by decide +kernel⟩, (inR16 _ (List.mem_of_getElem? (i := 11) rfl)), (inR16 _ (List.mem_of_getElem? (i := 12) rfl)), _, rfl, rfl⟩
theorem cwX3_212 : tl_CW RX3 212 Lib.Math.max.name mMath_max 2 ∧ Cond.static Lib.Math.max.name ∈ tl_W := ⟨⟨(inR16 _ (List.mem_of_getElem? (i := 14) rfl)), (inR16 _ (List.mem_of_getElem? (i := 16) rfl)), (inR16 _ (List.mem_of_getElem? (i := 17) rfl)), by decide, by decide, by decide +kernel⟩, (inR16 _ (List.mem_of_getElem? (i := 15) rfl))⟩
theorem cwX3_194 : tl_VW RX3 194 yX2_limit mX2_limit 0 2 := ⟨⟨(inR16 _ (List.mem_of_getElem? (i := 18) rfl)), (inR1 _ (List.mem_of_getElem? (i := 20) rfl)), (inR16 _ (List.mem_of_getElem? (i := 21) rfl)), by decide, by decide, by decide +kernel⟩, (inR16 _ (List.mem_of_getElem? (i := 19) rfl)), (inR16 _ (List.mem_of_getElem? (i := 20) rfl)), _, rfl, rfl⟩
theorem cwX3_237 : tl_VW RX3 237 yX3_madeFor mX3_madeFor 3 3 := ⟨⟨(inR16 _ (List.mem_of_getElem? (i := 22) rfl)), (inR1 _ (List.mem_of_getElem? (i := 2) rfl)), (inR17 _ (List.mem_of_getElem? (i := 1) rfl)), by decide, by decide, by decide +kernel⟩, (inR16 _ (List.mem_of_getElem? (i := 23) rfl)), (inR17 _ (List.mem_of_getElem? (i := 0) rfl)), _, rfl, rfl⟩
theorem sfX3_245 : Cond.fieldLink RX3 245 "DiagramBench" "OPERANDS" "[I" ∈ tl_W := (inR17 _ (List.mem_of_getElem? (i := 2) rfl))
theorem cwX3_142 : tl_VW RX3 142 yX3_kindStep mX3_kindStep 4 3 := ⟨⟨(inR17 _ (List.mem_of_getElem? (i := 3) rfl)), (inR1 _ (List.mem_of_getElem? (i := 2) rfl)), (inR17 _ (List.mem_of_getElem? (i := 6) rfl)), by decide, by decide, by decide +kernel⟩, (inR17 _ (List.mem_of_getElem? (i := 4) rfl)), (inR17 _ (List.mem_of_getElem? (i := 5) rfl)), _, rfl, rfl⟩
theorem sfX3_197 : Cond.fieldLink RX3 197 "DiagramBench" "TABLES" "[I" ∈ tl_W := (inR17 _ (List.mem_of_getElem? (i := 7) rfl))
theorem cwX3_200 : tl_VW RX3 200 yX2_make mX2_make 4 2 := ⟨⟨(inR17 _ (List.mem_of_getElem? (i := 8) rfl)), (inR1 _ (List.mem_of_getElem? (i := 20) rfl)), (inR17 _ (List.mem_of_getElem? (i := 11) rfl)), by decide, by decide, by decide +kernel⟩, (inR17 _ (List.mem_of_getElem? (i := 9) rfl)), (inR17 _ (List.mem_of_getElem? (i := 10) rfl)), _, rfl, rfl⟩
theorem cwX2_71 : tl_VW RX2 71 yX2_makeFrom mX2_makeFrom 5 2 := ⟨⟨(inR17 _ (List.mem_of_getElem? (i := 12) rfl)), (inR1 _ (List.mem_of_getElem? (i := 20) rfl)), (inR17 _ (List.mem_of_getElem? (i := 15) rfl)), by decide, by decide, by decide +kernel⟩, (inR17 _ (List.mem_of_getElem? (i := 13) rfl)), (inR17 _ (List.mem_of_getElem? (i := 14) rfl)), _, rfl, rfl⟩
theorem cwX2_79 : tl_CW RX2 79 Lib.Math.min.name mMath_min 2 ∧ Cond.static Lib.Math.min.name ∈ tl_W := ⟨⟨(inR17 _ (List.mem_of_getElem? (i := 16) rfl)), (inR16 _ (List.mem_of_getElem? (i := 16) rfl)), (inR17 _ (List.mem_of_getElem? (i := 18) rfl)), by decide, by decide, by decide +kernel⟩, (inR17 _ (List.mem_of_getElem? (i := 17) rfl))⟩
theorem cwX2_75 : tl_CW RX2 75 yX2_knowing mX2_knowing 4 ∧ Cond.static yX2_knowing ∈ tl_W := ⟨⟨(inR17 _ (List.mem_of_getElem? (i := 19) rfl)), (inR1 _ (List.mem_of_getElem? (i := 20) rfl)), (inR17 _ (List.mem_of_getElem? (i := 21) rfl)), by decide, by decide, by decide +kernel⟩, (inR17 _ (List.mem_of_getElem? (i := 20) rfl))⟩
theorem cwX2_85 : tl_VW RX2 85 yX2_lowAt mX2_lowAt 2 2 := ⟨⟨(inR17 _ (List.mem_of_getElem? (i := 22) rfl)), (inR1 _ (List.mem_of_getElem? (i := 20) rfl)), (inR18 _ (List.mem_of_getElem? (i := 1) rfl)), by decide, by decide, by decide +kernel⟩, (inR17 _ (List.mem_of_getElem? (i := 23) rfl)), (inR18 _ (List.mem_of_getElem? (i := 0) rfl)), _, rfl, rfl⟩
theorem cwX2_88 : tl_VW RX2 88 yX2_highAt mX2_highAt 2 2 := ⟨⟨(inR18 _ (List.mem_of_getElem? (i := 2) rfl)), (inR1 _ (List.mem_of_getElem? (i := 20) rfl)), (inR18 _ (List.mem_of_getElem? (i := 5) rfl)), by decide, by decide, by decide +kernel⟩, (inR18 _ (List.mem_of_getElem? (i := 3) rfl)), (inR18 _ (List.mem_of_getElem? (i := 4) rfl)), _, rfl, rfl⟩
theorem cwX3_241 : tl_VW RX3 241 yX3_letGoBehind mX3_letGoBehind 2 3 := ⟨⟨(inR18 _ (List.mem_of_getElem? (i := 6) rfl)), (inR1 _ (List.mem_of_getElem? (i := 2) rfl)), (inR18 _ (List.mem_of_getElem? (i := 9) rfl)), by decide, by decide, by decide +kernel⟩, (inR18 _ (List.mem_of_getElem? (i := 7) rfl)), (inR18 _ (List.mem_of_getElem? (i := 8) rfl)), _, rfl, rfl⟩
theorem cwX3_149 : tl_VW RX3 149 yX3_keep mX3_keep 1 3 := ⟨⟨(inR18 _ (List.mem_of_getElem? (i := 10) rfl)), (inR1 _ (List.mem_of_getElem? (i := 2) rfl)), (inR18 _ (List.mem_of_getElem? (i := 13) rfl)), by decide, by decide, by decide +kernel⟩, (inR18 _ (List.mem_of_getElem? (i := 11) rfl)), (inR18 _ (List.mem_of_getElem? (i := 12) rfl)), _, rfl, rfl⟩
theorem cwX3_133 : tl_VW RX3 133 yX3_give mX3_give 2 3 := ⟨⟨(inR18 _ (List.mem_of_getElem? (i := 14) rfl)), (inR1 _ (List.mem_of_getElem? (i := 2) rfl)), (inR18 _ (List.mem_of_getElem? (i := 17) rfl)), by decide, by decide, by decide +kernel⟩, (inR18 _ (List.mem_of_getElem? (i := 15) rfl)), (inR18 _ (List.mem_of_getElem? (i := 16) rfl)), _, rfl, rfl⟩
theorem cwX3_188 : tl_VW RX3 188 yX3_endSteps mX3_endSteps 0 3 := ⟨⟨(inR18 _ (List.mem_of_getElem? (i := 18) rfl)), (inR1 _ (List.mem_of_getElem? (i := 2) rfl)), (inR18 _ (List.mem_of_getElem? (i := 21) rfl)), by decide, by decide, by decide +kernel⟩, (inR18 _ (List.mem_of_getElem? (i := 19) rfl)), (inR18 _ (List.mem_of_getElem? (i := 20) rfl)), _, rfl, rfl⟩
theorem cwX3_152 : tl_VW RX3 152 yX2_nodeCount mX2_nodeCount 1 2 := ⟨⟨(inR18 _ (List.mem_of_getElem? (i := 22) rfl)), (inR1 _ (List.mem_of_getElem? (i := 20) rfl)), (inR19 _ (List.mem_of_getElem? (i := 1) rfl)), by decide, by decide, by decide +kernel⟩, (inR18 _ (List.mem_of_getElem? (i := 23) rfl)), (inR19 _ (List.mem_of_getElem? (i := 0) rfl)), _, rfl, rfl⟩
theorem cwX2_53 : tl_VW RX2 53 yX2_unmark mX2_unmark 0 2 := ⟨⟨(inR19 _ (List.mem_of_getElem? (i := 2) rfl)), (inR1 _ (List.mem_of_getElem? (i := 20) rfl)), (inR13 _ (List.mem_of_getElem? (i := 15) rfl)), by decide, by decide, by decide +kernel⟩, (inR13 _ (List.mem_of_getElem? (i := 13) rfl)), (inR13 _ (List.mem_of_getElem? (i := 14) rfl)), _, rfl, rfl⟩
theorem cwX2_56 : tl_VW RX2 56 yX2_mark mX2_mark 1 2 := ⟨⟨(inR19 _ (List.mem_of_getElem? (i := 3) rfl)), (inR1 _ (List.mem_of_getElem? (i := 20) rfl)), (inR13 _ (List.mem_of_getElem? (i := 19) rfl)), by decide, by decide, by decide +kernel⟩, (inR13 _ (List.mem_of_getElem? (i := 17) rfl)), (inR13 _ (List.mem_of_getElem? (i := 18) rfl)), _, rfl, rfl⟩
theorem cwX2_60 : tl_VW RX2 60 yX2_markedWith mX2_markedWith 1 2 := ⟨⟨(inR19 _ (List.mem_of_getElem? (i := 4) rfl)), (inR1 _ (List.mem_of_getElem? (i := 20) rfl)), (inR19 _ (List.mem_of_getElem? (i := 7) rfl)), by decide, by decide, by decide +kernel⟩, (inR19 _ (List.mem_of_getElem? (i := 5) rfl)), (inR19 _ (List.mem_of_getElem? (i := 6) rfl)), _, rfl, rfl⟩
theorem cwL_52 : tl_VW RL 52 yX4_build mX4_build 3 4 := ⟨⟨(inR19 _ (List.mem_of_getElem? (i := 8) rfl)), (inR1 _ (List.mem_of_getElem? (i := 5) rfl)), (inR19 _ (List.mem_of_getElem? (i := 11) rfl)), by decide, by decide, by decide +kernel⟩, (inR19 _ (List.mem_of_getElem? (i := 9) rfl)), (inR19 _ (List.mem_of_getElem? (i := 10) rfl)), _, rfl, rfl⟩
theorem cwX4_210 : tl_CW RX4 210 yX4_isHandle mX4_isHandle 1 ∧ Cond.static yX4_isHandle ∈ tl_W := ⟨⟨(inR19 _ (List.mem_of_getElem? (i := 12) rfl)), (inR1 _ (List.mem_of_getElem? (i := 5) rfl)), (inR19 _ (List.mem_of_getElem? (i := 14) rfl)), by decide, by decide, by decide +kernel⟩, (inR19 _ (List.mem_of_getElem? (i := 13) rfl))⟩
theorem cwX4_213 : tl_VW RX4 213 yX4_begin mX4_begin 0 4 := ⟨⟨(inR19 _ (List.mem_of_getElem? (i := 15) rfl)), (inR1 _ (List.mem_of_getElem? (i := 5) rfl)), (inR19 _ (List.mem_of_getElem? (i := 18) rfl)), by decide, by decide, by decide +kernel⟩, (inR19 _ (List.mem_of_getElem? (i := 16) rfl)), (inR19 _ (List.mem_of_getElem? (i := 17) rfl)), _, rfl, rfl⟩
theorem ffX4_176 : tl_FF RX4 176 4 25 .int false := ⟨RX4, TX4, 35, rfl, by decide, (fun w h => tl_inW (inlX4 w h)), (inR19 _ (List.mem_of_getElem? (i := 19) rfl)), tyX4_ok, nmX4, rfl, rfl, fun _ => rfl⟩
theorem cwX4_216 : tl_VW RX4 216 yX4_builds mX4_builds 2 4 := ⟨⟨(inR19 _ (List.mem_of_getElem? (i := 20) rfl)), (inR1 _ (List.mem_of_getElem? (i := 5) rfl)), (inR19 _ (List.mem_of_getElem? (i := 23) rfl)), by decide, by decide, by decide +kernel⟩, (inR19 _ (List.mem_of_getElem? (i := 21) rfl)), (inR19 _ (List.mem_of_getElem? (i := 22) rfl)), _, rfl, rfl⟩
theorem cwX4_194 : tl_VW RX4 194 yX4_needs mX4_needs 2 4 := ⟨⟨(inR20 _ (List.mem_of_getElem? (i := 0) rfl)), (inR1 _ (List.mem_of_getElem? (i := 5) rfl)), (inR20 _ (List.mem_of_getElem? (i := 3) rfl)), by decide, by decide, by decide +kernel⟩, (inR20 _ (List.mem_of_getElem? (i := 1) rfl)), (inR20 _ (List.mem_of_getElem? (i := 2) rfl)), _, rfl, rfl⟩
theorem cwX4_197 : tl_VW RX4 197 yX4_makeVariable mX4_makeVariable 2 4 := ⟨⟨(inR20 _ (List.mem_of_getElem? (i := 4) rfl)), (inR1 _ (List.mem_of_getElem? (i := 5) rfl)), (inR20 _ (List.mem_of_getElem? (i := 7) rfl)), by decide, by decide, by decide +kernel⟩, (inR20 _ (List.mem_of_getElem? (i := 5) rfl)), (inR20 _ (List.mem_of_getElem? (i := 6) rfl)), _, rfl, rfl⟩
theorem clX4_188 : Cond.constantLong RX4 188 (-1) ∈ tl_W := (inR20 _ (List.mem_of_getElem? (i := 8) rfl))
theorem cwX4_200 : tl_VW RX4 200 yX4_makeChoice mX4_makeChoice 4 4 := ⟨⟨(inR20 _ (List.mem_of_getElem? (i := 9) rfl)), (inR1 _ (List.mem_of_getElem? (i := 5) rfl)), (inR20 _ (List.mem_of_getElem? (i := 12) rfl)), by decide, by decide, by decide +kernel⟩, (inR20 _ (List.mem_of_getElem? (i := 10) rfl)), (inR20 _ (List.mem_of_getElem? (i := 11) rfl)), _, rfl, rfl⟩
theorem cwX4_204 : tl_VW RX4 204 yX4_makeOf mX4_makeOf 4 4 := ⟨⟨(inR20 _ (List.mem_of_getElem? (i := 13) rfl)), (inR1 _ (List.mem_of_getElem? (i := 5) rfl)), (inR20 _ (List.mem_of_getElem? (i := 16) rfl)), by decide, by decide, by decide +kernel⟩, (inR20 _ (List.mem_of_getElem? (i := 14) rfl)), (inR20 _ (List.mem_of_getElem? (i := 15) rfl)), _, rfl, rfl⟩
theorem cwX4_190 : tl_CW RX4 190 yX4_joined mX4_joined 3 ∧ Cond.static yX4_joined ∈ tl_W := ⟨⟨(inR20 _ (List.mem_of_getElem? (i := 17) rfl)), (inR1 _ (List.mem_of_getElem? (i := 5) rfl)), (inR20 _ (List.mem_of_getElem? (i := 19) rfl)), by decide, by decide, by decide +kernel⟩, (inR20 _ (List.mem_of_getElem? (i := 18) rfl))⟩
theorem cwX4_207 : tl_VW RX4 207 yX4_steps mX4_steps 1 4 := ⟨⟨(inR20 _ (List.mem_of_getElem? (i := 20) rfl)), (inR1 _ (List.mem_of_getElem? (i := 5) rfl)), (inR20 _ (List.mem_of_getElem? (i := 23) rfl)), by decide, by decide, by decide +kernel⟩, (inR20 _ (List.mem_of_getElem? (i := 21) rfl)), (inR20 _ (List.mem_of_getElem? (i := 22) rfl)), _, rfl, rfl⟩
theorem cwX4_173 : tl_VW RX4 173 yX4_add mX4_add 1 4 := ⟨⟨(inR21 _ (List.mem_of_getElem? (i := 0) rfl)), (inR1 _ (List.mem_of_getElem? (i := 5) rfl)), (inR21 _ (List.mem_of_getElem? (i := 3) rfl)), by decide, by decide, by decide +kernel⟩, (inR21 _ (List.mem_of_getElem? (i := 1) rfl)), (inR21 _ (List.mem_of_getElem? (i := 2) rfl)), _, rfl, rfl⟩
theorem ffX4_160 : tl_FF RX4 160 4 27 .int false := ⟨RX4, TX4, 35, rfl, by decide, (fun w h => tl_inW (inlX4 w h)), (inR21 _ (List.mem_of_getElem? (i := 4) rfl)), tyX4_ok, nmX4, rfl, rfl, fun _ => rfl⟩
theorem cwX4_163 : tl_VW RX4 163 yX4_lays mX4_lays 3 4 := ⟨⟨(inR21 _ (List.mem_of_getElem? (i := 5) rfl)), (inR1 _ (List.mem_of_getElem? (i := 5) rfl)), (inR21 _ (List.mem_of_getElem? (i := 8) rfl)), by decide, by decide, by decide +kernel⟩, (inR21 _ (List.mem_of_getElem? (i := 6) rfl)), (inR21 _ (List.mem_of_getElem? (i := 7) rfl)), _, rfl, rfl⟩
theorem cwX4_166 : tl_VW RX4 166 yX4_nodeFor mX4_nodeFor 1 4 := ⟨⟨(inR21 _ (List.mem_of_getElem? (i := 9) rfl)), (inR1 _ (List.mem_of_getElem? (i := 5) rfl)), (inR21 _ (List.mem_of_getElem? (i := 12) rfl)), by decide, by decide, by decide +kernel⟩, (inR21 _ (List.mem_of_getElem? (i := 10) rfl)), (inR21 _ (List.mem_of_getElem? (i := 11) rfl)), _, rfl, rfl⟩
theorem ffX4_157 : tl_FF RX4 157 4 23 .int false := ⟨RX4, TX4, 35, rfl, by decide, (fun w h => tl_inW (inlX4 w h)), (inR21 _ (List.mem_of_getElem? (i := 13) rfl)), tyX4_ok, nmX4, rfl, rfl, fun _ => rfl⟩
theorem cwX4_154 : tl_VW RX4 154 yX4_bucket mX4_bucket 1 4 := ⟨⟨(inR21 _ (List.mem_of_getElem? (i := 14) rfl)), (inR1 _ (List.mem_of_getElem? (i := 5) rfl)), (inR21 _ (List.mem_of_getElem? (i := 17) rfl)), by decide, by decide, by decide +kernel⟩, (inR21 _ (List.mem_of_getElem? (i := 15) rfl)), (inR21 _ (List.mem_of_getElem? (i := 16) rfl)), _, rfl, rfl⟩
theorem clX4_152 : Cond.constantLong RX4 152 (1000003) ∈ tl_W := (inR21 _ (List.mem_of_getElem? (i := 18) rfl))
theorem cwX4_179 : tl_VW RX4 179 yX4_remove mX4_remove 1 4 := ⟨⟨(inR21 _ (List.mem_of_getElem? (i := 19) rfl)), (inR1 _ (List.mem_of_getElem? (i := 5) rfl)), (inR21 _ (List.mem_of_getElem? (i := 22) rfl)), by decide, by decide, by decide +kernel⟩, (inR21 _ (List.mem_of_getElem? (i := 20) rfl)), (inR21 _ (List.mem_of_getElem? (i := 21) rfl)), _, rfl, rfl⟩
theorem cwX4_169 : tl_VW RX4 169 yX4_unlink mX4_unlink 1 4 := ⟨⟨(inR21 _ (List.mem_of_getElem? (i := 23) rfl)), (inR1 _ (List.mem_of_getElem? (i := 5) rfl)), (inR22 _ (List.mem_of_getElem? (i := 2) rfl)), by decide, by decide, by decide +kernel⟩, (inR22 _ (List.mem_of_getElem? (i := 0) rfl)), (inR22 _ (List.mem_of_getElem? (i := 1) rfl)), _, rfl, rfl⟩
theorem cwX4_219 : tl_VW RX4 219 yX4_gets mX4_gets 3 4 := ⟨⟨(inR22 _ (List.mem_of_getElem? (i := 3) rfl)), (inR1 _ (List.mem_of_getElem? (i := 5) rfl)), (inR22 _ (List.mem_of_getElem? (i := 6) rfl)), by decide, by decide, by decide +kernel⟩, (inR22 _ (List.mem_of_getElem? (i := 4) rfl)), (inR22 _ (List.mem_of_getElem? (i := 5) rfl)), _, rfl, rfl⟩
theorem cwX4_182 : tl_VW RX4 182 yX4_take mX4_take 2 4 := ⟨⟨(inR22 _ (List.mem_of_getElem? (i := 7) rfl)), (inR1 _ (List.mem_of_getElem? (i := 5) rfl)), (inR22 _ (List.mem_of_getElem? (i := 10) rfl)), by decide, by decide, by decide +kernel⟩, (inR22 _ (List.mem_of_getElem? (i := 8) rfl)), (inR22 _ (List.mem_of_getElem? (i := 9) rfl)), _, rfl, rfl⟩
theorem cwX4_185 : tl_VW RX4 185 yX4_clearHand mX4_clearHand 0 4 := ⟨⟨(inR22 _ (List.mem_of_getElem? (i := 11) rfl)), (inR1 _ (List.mem_of_getElem? (i := 5) rfl)), (inR22 _ (List.mem_of_getElem? (i := 14) rfl)), by decide, by decide, by decide +kernel⟩, (inR22 _ (List.mem_of_getElem? (i := 12) rfl)), (inR22 _ (List.mem_of_getElem? (i := 13) rfl)), _, rfl, rfl⟩
theorem cwL_53 : tl_VW RL 53 yX3_variable mX3_variable 2 3 := ⟨⟨(inR22 _ (List.mem_of_getElem? (i := 15) rfl)), (inR1 _ (List.mem_of_getElem? (i := 2) rfl)), (inR22 _ (List.mem_of_getElem? (i := 18) rfl)), by decide, by decide, by decide +kernel⟩, (inR22 _ (List.mem_of_getElem? (i := 16) rfl)), (inR22 _ (List.mem_of_getElem? (i := 17) rfl)), _, rfl, rfl⟩
theorem cwL_56 : tl_VW RL 56 yX4_variable mX4_variable 2 4 := ⟨⟨(inR22 _ (List.mem_of_getElem? (i := 19) rfl)), (inR1 _ (List.mem_of_getElem? (i := 5) rfl)), (inR22 _ (List.mem_of_getElem? (i := 22) rfl)), by decide, by decide, by decide +kernel⟩, (inR22 _ (List.mem_of_getElem? (i := 20) rfl)), (inR22 _ (List.mem_of_getElem? (i := 21) rfl)), _, rfl, rfl⟩
theorem cwL_57 : tl_VW RL 57 yX3_combine mX3_combine 4 3 := ⟨⟨(inR22 _ (List.mem_of_getElem? (i := 23) rfl)), (inR1 _ (List.mem_of_getElem? (i := 2) rfl)), (inR23 _ (List.mem_of_getElem? (i := 2) rfl)), by decide, by decide, by decide +kernel⟩, (inR23 _ (List.mem_of_getElem? (i := 0) rfl)), (inR23 _ (List.mem_of_getElem? (i := 1) rfl)), _, rfl, rfl⟩
theorem cwX3_139 : tl_VW RX3 139 yX3_hasFunction mX3_hasFunction 1 3 := ⟨⟨(inR23 _ (List.mem_of_getElem? (i := 3) rfl)), (inR1 _ (List.mem_of_getElem? (i := 2) rfl)), (inR23 _ (List.mem_of_getElem? (i := 6) rfl)), by decide, by decide, by decide +kernel⟩, (inR23 _ (List.mem_of_getElem? (i := 4) rfl)), (inR23 _ (List.mem_of_getElem? (i := 5) rfl)), _, rfl, rfl⟩
theorem cwL_61 : tl_VW RL 61 yX4_combine mX4_combine 4 4 := ⟨⟨(inR23 _ (List.mem_of_getElem? (i := 7) rfl)), (inR1 _ (List.mem_of_getElem? (i := 5) rfl)), (inR23 _ (List.mem_of_getElem? (i := 10) rfl)), by decide, by decide, by decide +kernel⟩, (inR23 _ (List.mem_of_getElem? (i := 8) rfl)), (inR23 _ (List.mem_of_getElem? (i := 9) rfl)), _, rfl, rfl⟩
theorem cwX4_223 : tl_VW RX4 223 yX4_isFunction mX4_isFunction 1 4 := ⟨⟨(inR23 _ (List.mem_of_getElem? (i := 11) rfl)), (inR1 _ (List.mem_of_getElem? (i := 5) rfl)), (inR23 _ (List.mem_of_getElem? (i := 14) rfl)), by decide, by decide, by decide +kernel⟩, (inR23 _ (List.mem_of_getElem? (i := 12) rfl)), (inR23 _ (List.mem_of_getElem? (i := 13) rfl)), _, rfl, rfl⟩
theorem cwL_62 : tl_VW RL 62 yX3_choose mX3_choose 4 3 := ⟨⟨(inR23 _ (List.mem_of_getElem? (i := 15) rfl)), (inR1 _ (List.mem_of_getElem? (i := 2) rfl)), (inR23 _ (List.mem_of_getElem? (i := 18) rfl)), by decide, by decide, by decide +kernel⟩, (inR23 _ (List.mem_of_getElem? (i := 16) rfl)), (inR23 _ (List.mem_of_getElem? (i := 17) rfl)), _, rfl, rfl⟩
theorem cwL_65 : tl_VW RL 65 yX4_choose mX4_choose 4 4 := ⟨⟨(inR23 _ (List.mem_of_getElem? (i := 19) rfl)), (inR1 _ (List.mem_of_getElem? (i := 5) rfl)), (inR23 _ (List.mem_of_getElem? (i := 22) rfl)), by decide, by decide, by decide +kernel⟩, (inR23 _ (List.mem_of_getElem? (i := 20) rfl)), (inR23 _ (List.mem_of_getElem? (i := 21) rfl)), _, rfl, rfl⟩
theorem cwL_66 : tl_VW RL 66 yX3_restrict mX3_restrict 4 3 := ⟨⟨(inR23 _ (List.mem_of_getElem? (i := 23) rfl)), (inR1 _ (List.mem_of_getElem? (i := 2) rfl)), (inR24 _ (List.mem_of_getElem? (i := 2) rfl)), by decide, by decide, by decide +kernel⟩, (inR24 _ (List.mem_of_getElem? (i := 0) rfl)), (inR24 _ (List.mem_of_getElem? (i := 1) rfl)), _, rfl, rfl⟩
theorem cwX3_145 : tl_VW RX3 145 yX3_fixStep mX3_fixStep 3 3 := ⟨⟨(inR24 _ (List.mem_of_getElem? (i := 3) rfl)), (inR1 _ (List.mem_of_getElem? (i := 2) rfl)), (inR24 _ (List.mem_of_getElem? (i := 6) rfl)), by decide, by decide, by decide +kernel⟩, (inR24 _ (List.mem_of_getElem? (i := 4) rfl)), (inR24 _ (List.mem_of_getElem? (i := 5) rfl)), _, rfl, rfl⟩
theorem cwX3_209 : tl_VW RX3 209 yX2_makeFixed mX2_makeFixed 3 2 := ⟨⟨(inR24 _ (List.mem_of_getElem? (i := 7) rfl)), (inR1 _ (List.mem_of_getElem? (i := 20) rfl)), (inR24 _ (List.mem_of_getElem? (i := 10) rfl)), by decide, by decide, by decide +kernel⟩, (inR24 _ (List.mem_of_getElem? (i := 8) rfl)), (inR24 _ (List.mem_of_getElem? (i := 9) rfl)), _, rfl, rfl⟩
theorem cwX2_91 : tl_VW RX2 91 yX2_fixFrom mX2_fixFrom 4 2 := ⟨⟨(inR24 _ (List.mem_of_getElem? (i := 11) rfl)), (inR1 _ (List.mem_of_getElem? (i := 20) rfl)), (inR24 _ (List.mem_of_getElem? (i := 14) rfl)), by decide, by decide, by decide +kernel⟩, (inR24 _ (List.mem_of_getElem? (i := 12) rfl)), (inR24 _ (List.mem_of_getElem? (i := 13) rfl)), _, rfl, rfl⟩
theorem cwL_70 : tl_VW RL 70 yX4_restrict mX4_restrict 4 4 := ⟨⟨(inR24 _ (List.mem_of_getElem? (i := 15) rfl)), (inR1 _ (List.mem_of_getElem? (i := 5) rfl)), (inR24 _ (List.mem_of_getElem? (i := 18) rfl)), by decide, by decide, by decide +kernel⟩, (inR24 _ (List.mem_of_getElem? (i := 16) rfl)), (inR24 _ (List.mem_of_getElem? (i := 17) rfl)), _, rfl, rfl⟩
theorem cwX4_226 : tl_VW RX4 226 yX4_noHalf mX4_noHalf 3 4 := ⟨⟨(inR24 _ (List.mem_of_getElem? (i := 19) rfl)), (inR1 _ (List.mem_of_getElem? (i := 5) rfl)), (inR24 _ (List.mem_of_getElem? (i := 22) rfl)), by decide, by decide, by decide +kernel⟩, (inR24 _ (List.mem_of_getElem? (i := 20) rfl)), (inR24 _ (List.mem_of_getElem? (i := 21) rfl)), _, rfl, rfl⟩
theorem cwX4_230 : tl_VW RX4 230 yX4_makeHalf mX4_makeHalf 4 4 := ⟨⟨(inR24 _ (List.mem_of_getElem? (i := 23) rfl)), (inR1 _ (List.mem_of_getElem? (i := 5) rfl)), (inR25 _ (List.mem_of_getElem? (i := 2) rfl)), by decide, by decide, by decide +kernel⟩, (inR25 _ (List.mem_of_getElem? (i := 0) rfl)), (inR25 _ (List.mem_of_getElem? (i := 1) rfl)), _, rfl, rfl⟩
theorem cwL_71 : tl_VW RL 71 yX3_quantify mX3_quantify 4 3 := ⟨⟨(inR25 _ (List.mem_of_getElem? (i := 3) rfl)), (inR1 _ (List.mem_of_getElem? (i := 2) rfl)), (inR25 _ (List.mem_of_getElem? (i := 6) rfl)), by decide, by decide, by decide +kernel⟩, (inR25 _ (List.mem_of_getElem? (i := 4) rfl)), (inR25 _ (List.mem_of_getElem? (i := 5) rfl)), _, rfl, rfl⟩
theorem cwL_74 : tl_VW RL 74 yX4_quantify mX4_quantify 4 4 := ⟨⟨(inR25 _ (List.mem_of_getElem? (i := 7) rfl)), (inR1 _ (List.mem_of_getElem? (i := 5) rfl)), (inR25 _ (List.mem_of_getElem? (i := 10) rfl)), by decide, by decide, by decide +kernel⟩, (inR25 _ (List.mem_of_getElem? (i := 8) rfl)), (inR25 _ (List.mem_of_getElem? (i := 9) rfl)), _, rfl, rfl⟩
theorem cwX4_234 : tl_VW RX4 234 yX4_halves mX4_halves 2 4 := ⟨⟨(inR25 _ (List.mem_of_getElem? (i := 11) rfl)), (inR1 _ (List.mem_of_getElem? (i := 5) rfl)), (inR25 _ (List.mem_of_getElem? (i := 14) rfl)), by decide, by decide, by decide +kernel⟩, (inR25 _ (List.mem_of_getElem? (i := 12) rfl)), (inR25 _ (List.mem_of_getElem? (i := 13) rfl)), _, rfl, rfl⟩
theorem cwL_75 : tl_VW RL 75 yX3_compose mX3_compose 4 3 := ⟨⟨(inR25 _ (List.mem_of_getElem? (i := 15) rfl)), (inR1 _ (List.mem_of_getElem? (i := 2) rfl)), (inR25 _ (List.mem_of_getElem? (i := 18) rfl)), by decide, by decide, by decide +kernel⟩, (inR25 _ (List.mem_of_getElem? (i := 16) rfl)), (inR25 _ (List.mem_of_getElem? (i := 17) rfl)), _, rfl, rfl⟩
theorem cwL_78 : tl_VW RL 78 yX4_compose mX4_compose 4 4 := ⟨⟨(inR25 _ (List.mem_of_getElem? (i := 19) rfl)), (inR1 _ (List.mem_of_getElem? (i := 5) rfl)), (inR25 _ (List.mem_of_getElem? (i := 22) rfl)), by decide, by decide, by decide +kernel⟩, (inR25 _ (List.mem_of_getElem? (i := 20) rfl)), (inR25 _ (List.mem_of_getElem? (i := 21) rfl)), _, rfl, rfl⟩
theorem cwL_79 : tl_VW RL 79 yX3_share mX3_share 2 3 := ⟨⟨(inR25 _ (List.mem_of_getElem? (i := 23) rfl)), (inR1 _ (List.mem_of_getElem? (i := 2) rfl)), (inR26 _ (List.mem_of_getElem? (i := 2) rfl)), by decide, by decide, by decide +kernel⟩, (inR26 _ (List.mem_of_getElem? (i := 0) rfl)), (inR26 _ (List.mem_of_getElem? (i := 1) rfl)), _, rfl, rfl⟩
theorem cwL_82 : tl_VW RL 82 yX4_share mX4_share 2 4 := ⟨⟨(inR26 _ (List.mem_of_getElem? (i := 3) rfl)), (inR1 _ (List.mem_of_getElem? (i := 5) rfl)), (inR26 _ (List.mem_of_getElem? (i := 6) rfl)), by decide, by decide, by decide +kernel⟩, (inR26 _ (List.mem_of_getElem? (i := 4) rfl)), (inR26 _ (List.mem_of_getElem? (i := 5) rfl)), _, rfl, rfl⟩
theorem cwL_83 : tl_VW RL 83 yX3_drop mX3_drop 1 3 := ⟨⟨(inR26 _ (List.mem_of_getElem? (i := 7) rfl)), (inR1 _ (List.mem_of_getElem? (i := 2) rfl)), (inR26 _ (List.mem_of_getElem? (i := 10) rfl)), by decide, by decide, by decide +kernel⟩, (inR26 _ (List.mem_of_getElem? (i := 8) rfl)), (inR26 _ (List.mem_of_getElem? (i := 9) rfl)), _, rfl, rfl⟩
theorem cwL_86 : tl_VW RL 86 yX4_drop mX4_drop 1 4 := ⟨⟨(inR26 _ (List.mem_of_getElem? (i := 11) rfl)), (inR1 _ (List.mem_of_getElem? (i := 5) rfl)), (inR26 _ (List.mem_of_getElem? (i := 14) rfl)), by decide, by decide, by decide +kernel⟩, (inR26 _ (List.mem_of_getElem? (i := 12) rfl)), (inR26 _ (List.mem_of_getElem? (i := 13) rfl)), _, rfl, rfl⟩
theorem cwL_87 : tl_VW RL 87 yX3_nodes mX3_nodes 1 3 := ⟨⟨(inR26 _ (List.mem_of_getElem? (i := 15) rfl)), (inR1 _ (List.mem_of_getElem? (i := 2) rfl)), (inR26 _ (List.mem_of_getElem? (i := 18) rfl)), by decide, by decide, by decide +kernel⟩, (inR26 _ (List.mem_of_getElem? (i := 16) rfl)), (inR26 _ (List.mem_of_getElem? (i := 17) rfl)), _, rfl, rfl⟩
theorem cwL_90 : tl_VW RL 90 yX4_nodes mX4_nodes 1 4 := ⟨⟨(inR26 _ (List.mem_of_getElem? (i := 19) rfl)), (inR1 _ (List.mem_of_getElem? (i := 5) rfl)), (inR26 _ (List.mem_of_getElem? (i := 22) rfl)), by decide, by decide, by decide +kernel⟩, (inR26 _ (List.mem_of_getElem? (i := 20) rfl)), (inR26 _ (List.mem_of_getElem? (i := 21) rfl)), _, rfl, rfl⟩
theorem cwL_91 : tl_VW RL 91 yX3_inUse mX3_inUse 0 3 := ⟨⟨(inR26 _ (List.mem_of_getElem? (i := 23) rfl)), (inR1 _ (List.mem_of_getElem? (i := 2) rfl)), (inR13 _ (List.mem_of_getElem? (i := 7) rfl)), by decide, by decide, by decide +kernel⟩, (inR13 _ (List.mem_of_getElem? (i := 5) rfl)), (inR13 _ (List.mem_of_getElem? (i := 6) rfl)), _, rfl, rfl⟩
theorem cwL_95 : tl_VW RL 95 yX4_inUse mX4_inUse 0 4 := ⟨⟨(inR27 _ (List.mem_of_getElem? (i := 0) rfl)), (inR1 _ (List.mem_of_getElem? (i := 5) rfl)), (inR27 _ (List.mem_of_getElem? (i := 3) rfl)), by decide, by decide, by decide +kernel⟩, (inR27 _ (List.mem_of_getElem? (i := 1) rfl)), (inR27 _ (List.mem_of_getElem? (i := 2) rfl)), _, rfl, rfl⟩
theorem cwL_96 : tl_VW RL 96 yX3_common mX3_common 2 3 := ⟨⟨(inR27 _ (List.mem_of_getElem? (i := 4) rfl)), (inR1 _ (List.mem_of_getElem? (i := 2) rfl)), (inR27 _ (List.mem_of_getElem? (i := 7) rfl)), by decide, by decide, by decide +kernel⟩, (inR27 _ (List.mem_of_getElem? (i := 5) rfl)), (inR27 _ (List.mem_of_getElem? (i := 6) rfl)), _, rfl, rfl⟩
theorem cwX3_161 : tl_VW RX3 161 yX2_commonCount mX2_commonCount 2 2 := ⟨⟨(inR27 _ (List.mem_of_getElem? (i := 8) rfl)), (inR1 _ (List.mem_of_getElem? (i := 20) rfl)), (inR27 _ (List.mem_of_getElem? (i := 11) rfl)), by decide, by decide, by decide +kernel⟩, (inR27 _ (List.mem_of_getElem? (i := 9) rfl)), (inR27 _ (List.mem_of_getElem? (i := 10) rfl)), _, rfl, rfl⟩
theorem cwL_99 : tl_VW RL 99 yX4_common mX4_common 2 4 := ⟨⟨(inR27 _ (List.mem_of_getElem? (i := 12) rfl)), (inR1 _ (List.mem_of_getElem? (i := 5) rfl)), (inR27 _ (List.mem_of_getElem? (i := 15) rfl)), by decide, by decide, by decide +kernel⟩, (inR27 _ (List.mem_of_getElem? (i := 13) rfl)), (inR27 _ (List.mem_of_getElem? (i := 14) rfl)), _, rfl, rfl⟩
theorem cwL_100 : tl_VW RL 100 yX3_peak mX3_peak 0 3 := ⟨⟨(inR27 _ (List.mem_of_getElem? (i := 16) rfl)), (inR1 _ (List.mem_of_getElem? (i := 2) rfl)), (inR27 _ (List.mem_of_getElem? (i := 19) rfl)), by decide, by decide, by decide +kernel⟩, (inR27 _ (List.mem_of_getElem? (i := 17) rfl)), (inR27 _ (List.mem_of_getElem? (i := 18) rfl)), _, rfl, rfl⟩
theorem cwL_103 : tl_VW RL 103 yX4_peak mX4_peak 0 4 := ⟨⟨(inR27 _ (List.mem_of_getElem? (i := 20) rfl)), (inR1 _ (List.mem_of_getElem? (i := 5) rfl)), (inR27 _ (List.mem_of_getElem? (i := 23) rfl)), by decide, by decide, by decide +kernel⟩, (inR27 _ (List.mem_of_getElem? (i := 21) rfl)), (inR27 _ (List.mem_of_getElem? (i := 22) rfl)), _, rfl, rfl⟩
theorem cwL_104 : tl_VW RL 104 yX3_value mX3_value 2 3 := ⟨⟨(inR28 _ (List.mem_of_getElem? (i := 0) rfl)), (inR1 _ (List.mem_of_getElem? (i := 2) rfl)), (inR28 _ (List.mem_of_getElem? (i := 3) rfl)), by decide, by decide, by decide +kernel⟩, (inR28 _ (List.mem_of_getElem? (i := 1) rfl)), (inR28 _ (List.mem_of_getElem? (i := 2) rfl)), _, rfl, rfl⟩
theorem cwX3_164 : tl_VW RX3 164 yX2_valueFor mX2_valueFor 3 2 := ⟨⟨(inR28 _ (List.mem_of_getElem? (i := 4) rfl)), (inR1 _ (List.mem_of_getElem? (i := 20) rfl)), (inR28 _ (List.mem_of_getElem? (i := 7) rfl)), by decide, by decide, by decide +kernel⟩, (inR28 _ (List.mem_of_getElem? (i := 5) rfl)), (inR28 _ (List.mem_of_getElem? (i := 6) rfl)), _, rfl, rfl⟩
theorem cwX2_95 : tl_VW RX2 95 yX1_variableAt mX1_variableAt 1 1 := ⟨⟨(inR28 _ (List.mem_of_getElem? (i := 8) rfl)), (inR1 _ (List.mem_of_getElem? (i := 16) rfl)), (inR12 _ (List.mem_of_getElem? (i := 19) rfl)), by decide, by decide, by decide +kernel⟩, (inR12 _ (List.mem_of_getElem? (i := 17) rfl)), (inR12 _ (List.mem_of_getElem? (i := 18) rfl)), _, rfl, rfl⟩
theorem cwL_107 : tl_VW RL 107 yX4_value mX4_value 2 4 := ⟨⟨(inR28 _ (List.mem_of_getElem? (i := 9) rfl)), (inR1 _ (List.mem_of_getElem? (i := 5) rfl)), (inR28 _ (List.mem_of_getElem? (i := 12) rfl)), by decide, by decide, by decide +kernel⟩, (inR28 _ (List.mem_of_getElem? (i := 10) rfl)), (inR28 _ (List.mem_of_getElem? (i := 11) rfl)), _, rfl, rfl⟩
theorem cwX4_237 : tl_VW RX4 237 yX4_stands mX4_stands 1 4 := ⟨⟨(inR28 _ (List.mem_of_getElem? (i := 13) rfl)), (inR1 _ (List.mem_of_getElem? (i := 5) rfl)), (inR28 _ (List.mem_of_getElem? (i := 16) rfl)), by decide, by decide, by decide +kernel⟩, (inR28 _ (List.mem_of_getElem? (i := 14) rfl)), (inR28 _ (List.mem_of_getElem? (i := 15) rfl)), _, rfl, rfl⟩
theorem cwX4_240 : tl_VW RX4 240 yX4_bit mX4_bit 2 4 := ⟨⟨(inR28 _ (List.mem_of_getElem? (i := 17) rfl)), (inR1 _ (List.mem_of_getElem? (i := 5) rfl)), (inR28 _ (List.mem_of_getElem? (i := 20) rfl)), by decide, by decide, by decide +kernel⟩, (inR28 _ (List.mem_of_getElem? (i := 18) rfl)), (inR28 _ (List.mem_of_getElem? (i := 19) rfl)), _, rfl, rfl⟩
theorem cwL_108 : tl_VW RL 108 yX3_same mX3_same 2 3 := ⟨⟨(inR28 _ (List.mem_of_getElem? (i := 21) rfl)), (inR1 _ (List.mem_of_getElem? (i := 2) rfl)), (inR29 _ (List.mem_of_getElem? (i := 0) rfl)), by decide, by decide, by decide +kernel⟩, (inR28 _ (List.mem_of_getElem? (i := 22) rfl)), (inR28 _ (List.mem_of_getElem? (i := 23) rfl)), _, rfl, rfl⟩
theorem cwL_111 : tl_VW RL 111 yX4_same mX4_same 2 4 := ⟨⟨(inR29 _ (List.mem_of_getElem? (i := 1) rfl)), (inR1 _ (List.mem_of_getElem? (i := 5) rfl)), (inR29 _ (List.mem_of_getElem? (i := 4) rfl)), by decide, by decide, by decide +kernel⟩, (inR29 _ (List.mem_of_getElem? (i := 2) rfl)), (inR29 _ (List.mem_of_getElem? (i := 3) rfl)), _, rfl, rfl⟩
theorem cwL_112 : tl_VW RL 112 yX3_count mX3_count 1 3 := ⟨⟨(inR29 _ (List.mem_of_getElem? (i := 5) rfl)), (inR1 _ (List.mem_of_getElem? (i := 2) rfl)), (inR29 _ (List.mem_of_getElem? (i := 8) rfl)), by decide, by decide, by decide +kernel⟩, (inR29 _ (List.mem_of_getElem? (i := 6) rfl)), (inR29 _ (List.mem_of_getElem? (i := 7) rfl)), _, rfl, rfl⟩
theorem cwL_115 : tl_VW RL 115 yX4_count mX4_count 1 4 := ⟨⟨(inR29 _ (List.mem_of_getElem? (i := 9) rfl)), (inR1 _ (List.mem_of_getElem? (i := 5) rfl)), (inR29 _ (List.mem_of_getElem? (i := 12) rfl)), by decide, by decide, by decide +kernel⟩, (inR29 _ (List.mem_of_getElem? (i := 10) rfl)), (inR29 _ (List.mem_of_getElem? (i := 11) rfl)), _, rfl, rfl⟩
theorem cwL_116 : tl_VW RL 116 yX3_support mX3_support 1 3 := ⟨⟨(inR29 _ (List.mem_of_getElem? (i := 13) rfl)), (inR1 _ (List.mem_of_getElem? (i := 2) rfl)), (inR29 _ (List.mem_of_getElem? (i := 16) rfl)), by decide, by decide, by decide +kernel⟩, (inR29 _ (List.mem_of_getElem? (i := 14) rfl)), (inR29 _ (List.mem_of_getElem? (i := 15) rfl)), _, rfl, rfl⟩
theorem cwX3_168 : tl_VW RX3 168 yX2_nodeCountAt mX2_nodeCountAt 2 2 := ⟨⟨(inR29 _ (List.mem_of_getElem? (i := 17) rfl)), (inR1 _ (List.mem_of_getElem? (i := 20) rfl)), (inR29 _ (List.mem_of_getElem? (i := 20) rfl)), by decide, by decide, by decide +kernel⟩, (inR29 _ (List.mem_of_getElem? (i := 18) rfl)), (inR29 _ (List.mem_of_getElem? (i := 19) rfl)), _, rfl, rfl⟩
theorem cwL_119 : tl_VW RL 119 yX4_support mX4_support 1 4 := ⟨⟨(inR29 _ (List.mem_of_getElem? (i := 21) rfl)), (inR1 _ (List.mem_of_getElem? (i := 5) rfl)), (inR30 _ (List.mem_of_getElem? (i := 0) rfl)), by decide, by decide, by decide +kernel⟩, (inR29 _ (List.mem_of_getElem? (i := 22) rfl)), (inR29 _ (List.mem_of_getElem? (i := 23) rfl)), _, rfl, rfl⟩
theorem cwX4_243 : tl_VW RX4 243 yX4_hangs mX4_hangs 2 4 := ⟨⟨(inR30 _ (List.mem_of_getElem? (i := 1) rfl)), (inR1 _ (List.mem_of_getElem? (i := 5) rfl)), (inR30 _ (List.mem_of_getElem? (i := 4) rfl)), by decide, by decide, by decide +kernel⟩, (inR30 _ (List.mem_of_getElem? (i := 2) rfl)), (inR30 _ (List.mem_of_getElem? (i := 3) rfl)), _, rfl, rfl⟩
theorem cwL_120 : tl_VW RL 120 yX3_top mX3_top 1 3 := ⟨⟨(inR30 _ (List.mem_of_getElem? (i := 5) rfl)), (inR1 _ (List.mem_of_getElem? (i := 2) rfl)), (inR30 _ (List.mem_of_getElem? (i := 8) rfl)), by decide, by decide, by decide +kernel⟩, (inR30 _ (List.mem_of_getElem? (i := 6) rfl)), (inR30 _ (List.mem_of_getElem? (i := 7) rfl)), _, rfl, rfl⟩
theorem cwX3_171 : tl_VW RX3 171 yX2_placeOf mX2_placeOf 1 2 := ⟨⟨(inR30 _ (List.mem_of_getElem? (i := 9) rfl)), (inR1 _ (List.mem_of_getElem? (i := 20) rfl)), (inR30 _ (List.mem_of_getElem? (i := 12) rfl)), by decide, by decide, by decide +kernel⟩, (inR30 _ (List.mem_of_getElem? (i := 10) rfl)), (inR30 _ (List.mem_of_getElem? (i := 11) rfl)), _, rfl, rfl⟩
theorem cwL_123 : tl_VW RL 123 yX4_top mX4_top 1 4 := ⟨⟨(inR30 _ (List.mem_of_getElem? (i := 13) rfl)), (inR1 _ (List.mem_of_getElem? (i := 5) rfl)), (inR30 _ (List.mem_of_getElem? (i := 16) rfl)), by decide, by decide, by decide +kernel⟩, (inR30 _ (List.mem_of_getElem? (i := 14) rfl)), (inR30 _ (List.mem_of_getElem? (i := 15) rfl)), _, rfl, rfl⟩
theorem cwL_124 : tl_VW RL 124 yX3_level mX3_level 2 3 := ⟨⟨(inR30 _ (List.mem_of_getElem? (i := 17) rfl)), (inR1 _ (List.mem_of_getElem? (i := 2) rfl)), (inR30 _ (List.mem_of_getElem? (i := 20) rfl)), by decide, by decide, by decide +kernel⟩, (inR30 _ (List.mem_of_getElem? (i := 18) rfl)), (inR30 _ (List.mem_of_getElem? (i := 19) rfl)), _, rfl, rfl⟩
theorem cwL_127 : tl_VW RL 127 yX4_level mX4_level 2 4 := ⟨⟨(inR30 _ (List.mem_of_getElem? (i := 21) rfl)), (inR1 _ (List.mem_of_getElem? (i := 5) rfl)), (inR31 _ (List.mem_of_getElem? (i := 0) rfl)), by decide, by decide, by decide +kernel⟩, (inR30 _ (List.mem_of_getElem? (i := 22) rfl)), (inR30 _ (List.mem_of_getElem? (i := 23) rfl)), _, rfl, rfl⟩
theorem cwL_128 : tl_VW RL 128 yX3_least mX3_least 2 3 := ⟨⟨(inR31 _ (List.mem_of_getElem? (i := 1) rfl)), (inR1 _ (List.mem_of_getElem? (i := 2) rfl)), (inR31 _ (List.mem_of_getElem? (i := 4) rfl)), by decide, by decide, by decide +kernel⟩, (inR31 _ (List.mem_of_getElem? (i := 2) rfl)), (inR31 _ (List.mem_of_getElem? (i := 3) rfl)), _, rfl, rfl⟩
theorem cwX3_175 : tl_VW RX3 175 yX2_leastFor mX2_leastFor 3 2 := ⟨⟨(inR31 _ (List.mem_of_getElem? (i := 5) rfl)), (inR1 _ (List.mem_of_getElem? (i := 20) rfl)), (inR31 _ (List.mem_of_getElem? (i := 8) rfl)), by decide, by decide, by decide +kernel⟩, (inR31 _ (List.mem_of_getElem? (i := 6) rfl)), (inR31 _ (List.mem_of_getElem? (i := 7) rfl)), _, rfl, rfl⟩
theorem cwL_132 : tl_VW RL 132 yX4_least mX4_least 2 4 := ⟨⟨(inR31 _ (List.mem_of_getElem? (i := 9) rfl)), (inR1 _ (List.mem_of_getElem? (i := 5) rfl)), (inR31 _ (List.mem_of_getElem? (i := 12) rfl)), by decide, by decide, by decide +kernel⟩, (inR31 _ (List.mem_of_getElem? (i := 10) rfl)), (inR31 _ (List.mem_of_getElem? (i := 11) rfl)), _, rfl, rfl⟩
theorem cwX4_246 : tl_VW RX4 246 yX4_leastOf mX4_leastOf 2 4 := ⟨⟨(inR31 _ (List.mem_of_getElem? (i := 13) rfl)), (inR1 _ (List.mem_of_getElem? (i := 5) rfl)), (inR31 _ (List.mem_of_getElem? (i := 16) rfl)), by decide, by decide, by decide +kernel⟩, (inR31 _ (List.mem_of_getElem? (i := 14) rfl)), (inR31 _ (List.mem_of_getElem? (i := 15) rfl)), _, rfl, rfl⟩
theorem cwX4_250 : tl_VW RX4 250 yX4_assignmentAt mX4_assignmentAt 1 4 := ⟨⟨(inR31 _ (List.mem_of_getElem? (i := 17) rfl)), (inR1 _ (List.mem_of_getElem? (i := 5) rfl)), (inR31 _ (List.mem_of_getElem? (i := 20) rfl)), by decide, by decide, by decide +kernel⟩, (inR31 _ (List.mem_of_getElem? (i := 18) rfl)), (inR31 _ (List.mem_of_getElem? (i := 19) rfl)), _, rfl, rfl⟩
theorem cwL_133 : tl_VW RL 133 yX3_paths mX3_paths 2 3 := ⟨⟨(inR31 _ (List.mem_of_getElem? (i := 21) rfl)), (inR1 _ (List.mem_of_getElem? (i := 2) rfl)), (inR32 _ (List.mem_of_getElem? (i := 0) rfl)), by decide, by decide, by decide +kernel⟩, (inR31 _ (List.mem_of_getElem? (i := 22) rfl)), (inR31 _ (List.mem_of_getElem? (i := 23) rfl)), _, rfl, rfl⟩
theorem cwX3_178 : tl_VW RX3 178 yX2_pathCount mX2_pathCount 2 2 := ⟨⟨(inR32 _ (List.mem_of_getElem? (i := 1) rfl)), (inR1 _ (List.mem_of_getElem? (i := 20) rfl)), (inR32 _ (List.mem_of_getElem? (i := 4) rfl)), by decide, by decide, by decide +kernel⟩, (inR32 _ (List.mem_of_getElem? (i := 2) rfl)), (inR32 _ (List.mem_of_getElem? (i := 3) rfl)), _, rfl, rfl⟩
theorem cwX2_100 : tl_VW RX2 100 yX2_pathsFrom mX2_pathsFrom 3 2 := ⟨⟨(inR32 _ (List.mem_of_getElem? (i := 5) rfl)), (inR1 _ (List.mem_of_getElem? (i := 20) rfl)), (inR32 _ (List.mem_of_getElem? (i := 8) rfl)), by decide, by decide, by decide +kernel⟩, (inR32 _ (List.mem_of_getElem? (i := 6) rfl)), (inR32 _ (List.mem_of_getElem? (i := 7) rfl)), _, rfl, rfl⟩
theorem cwL_136 : tl_VW RL 136 yX4_paths mX4_paths 2 4 := ⟨⟨(inR32 _ (List.mem_of_getElem? (i := 9) rfl)), (inR1 _ (List.mem_of_getElem? (i := 5) rfl)), (inR32 _ (List.mem_of_getElem? (i := 12) rfl)), by decide, by decide, by decide +kernel⟩, (inR32 _ (List.mem_of_getElem? (i := 10) rfl)), (inR32 _ (List.mem_of_getElem? (i := 11) rfl)), _, rfl, rfl⟩
theorem cwL_137 : tl_VW RL 137 yX3_equal mX3_equal 2 3 := ⟨⟨(inR32 _ (List.mem_of_getElem? (i := 13) rfl)), (inR1 _ (List.mem_of_getElem? (i := 2) rfl)), (inR32 _ (List.mem_of_getElem? (i := 16) rfl)), by decide, by decide, by decide +kernel⟩, (inR32 _ (List.mem_of_getElem? (i := 14) rfl)), (inR32 _ (List.mem_of_getElem? (i := 15) rfl)), _, rfl, rfl⟩
theorem cwX3_181 : tl_VW RX3 181 yX0_outputCount mX0_outputCount 0 0 := ⟨⟨(inR32 _ (List.mem_of_getElem? (i := 17) rfl)), (inR2 _ (List.mem_of_getElem? (i := 8) rfl)), (inR32 _ (List.mem_of_getElem? (i := 20) rfl)), by decide, by decide, by decide +kernel⟩, (inR32 _ (List.mem_of_getElem? (i := 18) rfl)), (inR32 _ (List.mem_of_getElem? (i := 19) rfl)), _, rfl, rfl⟩
theorem cwX3_184 : tl_VW RX3 184 yX3_notePart mX3_notePart 2 3 := ⟨⟨(inR32 _ (List.mem_of_getElem? (i := 21) rfl)), (inR1 _ (List.mem_of_getElem? (i := 2) rfl)), (inR33 _ (List.mem_of_getElem? (i := 0) rfl)), by decide, by decide, by decide +kernel⟩, (inR32 _ (List.mem_of_getElem? (i := 22) rfl)), (inR32 _ (List.mem_of_getElem? (i := 23) rfl)), _, rfl, rfl⟩
theorem cwL_140 : tl_VW RL 140 yX4_equal mX4_equal 2 4 := ⟨⟨(inR33 _ (List.mem_of_getElem? (i := 1) rfl)), (inR1 _ (List.mem_of_getElem? (i := 5) rfl)), (inR33 _ (List.mem_of_getElem? (i := 4) rfl)), by decide, by decide, by decide +kernel⟩, (inR33 _ (List.mem_of_getElem? (i := 2) rfl)), (inR33 _ (List.mem_of_getElem? (i := 3) rfl)), _, rfl, rfl⟩
theorem cwL_141 : tl_VW RL 141 yX3_parting mX3_parting 1 3 := ⟨⟨(inR33 _ (List.mem_of_getElem? (i := 5) rfl)), (inR1 _ (List.mem_of_getElem? (i := 2) rfl)), (inR33 _ (List.mem_of_getElem? (i := 8) rfl)), by decide, by decide, by decide +kernel⟩, (inR33 _ (List.mem_of_getElem? (i := 6) rfl)), (inR33 _ (List.mem_of_getElem? (i := 7) rfl)), _, rfl, rfl⟩
theorem cwL_144 : tl_VW RL 144 yX4_parting mX4_parting 1 4 := ⟨⟨(inR33 _ (List.mem_of_getElem? (i := 9) rfl)), (inR1 _ (List.mem_of_getElem? (i := 5) rfl)), (inR33 _ (List.mem_of_getElem? (i := 12) rfl)), by decide, by decide, by decide +kernel⟩, (inR33 _ (List.mem_of_getElem? (i := 10) rfl)), (inR33 _ (List.mem_of_getElem? (i := 11) rfl)), _, rfl, rfl⟩
theorem cwL_145 : tl_VW RL 145 yX3_told mX3_told 1 3 := ⟨⟨(inR33 _ (List.mem_of_getElem? (i := 13) rfl)), (inR1 _ (List.mem_of_getElem? (i := 2) rfl)), (inR33 _ (List.mem_of_getElem? (i := 16) rfl)), by decide, by decide, by decide +kernel⟩, (inR33 _ (List.mem_of_getElem? (i := 14) rfl)), (inR33 _ (List.mem_of_getElem? (i := 15) rfl)), _, rfl, rfl⟩
theorem cwX3_191 : tl_VW RX3 191 yX0_gateCount mX0_gateCount 0 0 := ⟨⟨(inR33 _ (List.mem_of_getElem? (i := 17) rfl)), (inR2 _ (List.mem_of_getElem? (i := 8) rfl)), (inR33 _ (List.mem_of_getElem? (i := 20) rfl)), by decide, by decide, by decide +kernel⟩, (inR33 _ (List.mem_of_getElem? (i := 18) rfl)), (inR33 _ (List.mem_of_getElem? (i := 19) rfl)), _, rfl, rfl⟩
theorem cwL_148 : tl_VW RL 148 yX4_told mX4_told 1 4 := ⟨⟨(inR33 _ (List.mem_of_getElem? (i := 21) rfl)), (inR1 _ (List.mem_of_getElem? (i := 5) rfl)), (inR34 _ (List.mem_of_getElem? (i := 0) rfl)), by decide, by decide, by decide +kernel⟩, (inR33 _ (List.mem_of_getElem? (i := 22) rfl)), (inR33 _ (List.mem_of_getElem? (i := 23) rfl)), _, rfl, rfl⟩
theorem wd_aI : Cond.arrayClass .int ∈ tl_W := (inR1 _ (List.mem_of_getElem? (i := 22) rfl))
theorem wd_aZ : Cond.arrayClass .boolean ∈ tl_W := (inR4 _ (List.mem_of_getElem? (i := 13) rfl))
theorem wd_aJ : Cond.arrayClass .long ∈ tl_W := (inR4 _ (List.mem_of_getElem? (i := 21) rfl))
theorem wd_oI : Cond.instanceMethod objectInit ∈ tl_W := (inR1 _ (List.mem_of_getElem? (i := 10) rfl))
theorem wd_oC : Cond.code objectInit ⟨#[0xb1]⟩ 1 none ∈ tl_W := (inR1 _ (List.mem_of_getElem? (i := 11) rfl))
end
section
/-! ===== Z-LAYER: ints as Int, addresses counted from the base; ranges and frames kept ===== -/
abbrev zV : Type := Int ⊕ (Int64 ⊕ (Nat ⊕ Nat))
abbrev vI (z : Int) : zV := Sum.inl z
abbrev vJ (x : Int64) : zV := Sum.inr (Sum.inl x)
abbrev vR (a : Nat) : zV := Sum.inr (Sum.inr (Sum.inl a))
abbrev vS (i : Nat) : zV := Sum.inr (Sum.inr (Sum.inr i))
abbrev zM : Type := Nat → Int → Int
abbrev zJ : Type := Nat → Int → Int64
abbrev zF : Type := (Nat → Nat × Nat) × (Nat → Nat → Option Nat) × Nat
abbrev zI (z : Int) : Prop := -2147483648 ≤ z ∧ z ≤ 2147483647
def vok (v : zV) : Prop := match v with
  | .inl z => zI z
  | .inr _ => True
def cv (G : tl_G) (v : zV) : Value := match v with
  | .inl z => .int (Int32.ofInt z)
  | .inr (.inl x) => .long x
  | .inr (.inr (.inl a)) => .ref (gB G + a)
  | .inr (.inr (.inr i)) => .ref (gR G i).1
def uz {α : Type} (M : Nat → Int → α) (a : Nat) (j : Int) (v : α) : Nat → Int → α := fun a' j' => if a' = a then (if j' = j then v else M a' j') else M a' j'
theorem uz_o {α : Type} {M : Nat → Int → α} {a a' : Nat} {j : Int} {v : α} (h : a' ≠ a) : uz M a j v a' = M a' := by
  funext j'
  simp [uz, h]
theorem uz_s {α : Type} {M : Nat → Int → α} {a : Nat} {j : Int} {v : α} : uz M a j v a j = v := by simp [uz]
theorem uz_n {α : Type} {M : Nat → Int → α} {a : Nat} {j j' : Int} {v : α} (h : j' ≠ j) : uz M a j v a j' = M a j' := by simp [uz, h]
theorem uz_a {α : Type} {M : Nat → Int → α} {a : Nat} {j j' : Int} {v : α} : uz M a j v a j' = if j' = j then v else M a j' := by simp [uz]
/-- the range of each cell -/
abbrev zfull : Int × Int := (-2147483648, 2147483647)
def zTn : List (Int → Int × Int) := [fun k => if k = 4 then (0, 40) else if k = 5 then (0, 4) else zfull, fun _ => (0, 10), fun _ => zfull, fun _ => (0, 39), fun _ => (0, 1)]
def zTl : List (Int → Int × Int) := [
  fun k => if k = 7 then (0, 8) else zfull, fun _ => zfull,
  fun k => if k = 2 then (0, 8) else zfull, fun _ => (0, 7), fun _ => (-1, 7),
  fun k => if k = 6 then (-1, 251) else if k = 7 then (0, 252) else if k = 8 then (0, 250) else zfull,
  fun k => (0, if k < 2 then 8 else 7), fun _ => (0, 251), fun _ => (0, 251), fun _ => (0, 3), fun _ => (-1, 251), fun _ => (-1, 251),
  fun _ => (-1, 251), fun _ => (-1, 251), fun _ => (-1, 39), fun _ => (0, 251)] ++ (zTn ++ (zTn ++ (zTn ++ [
  fun k => if k = 8 then (0, 250) else if k = 12 then (0, 41) else if k = 13 then (0, 8) else if k = 23 then (-1, 519) else if k = 24 then (0, 520) else if k = 27 then (0, 2147483647) else zfull,
  fun _ => (0, 40), fun _ => (0, 4), fun _ => (0, 10), fun _ => zfull, fun _ => (0, 39), fun _ => (0, 1), fun _ => (0, 7), fun _ => (-1, 7), fun _ => (0, 1), fun _ => (0, 39), fun _ => (0, 3), fun _ => (0, 1),
  fun _ => zfull, fun _ => (0, 255), fun _ => (0, 519), fun _ => (0, 7), fun _ => zfull, fun _ => (0, 56), fun _ => (-1, 520), fun _ => (-1, 519), fun _ => (0, 2147483647),
  fun _ => zfull, fun _ => zfull, fun _ => (0, 1), fun _ => (-1, 39), fun _ => zfull])))
def zT (a : Nat) (k : Int) : Int × Int := zTl.getD a (fun _ => zfull) k
theorem zT_in (a : Nat) (k : Int) : (-2147483648 ≤ (zT a k).1 ∧ (zT a k).1 ≤ 0) ∧ 0 ≤ (zT a k).2 ∧ (zT a k).2 ≤ 2147483647 := by
  have h : ∀ f ∈ zTl, (-2147483648 ≤ (f k).1 ∧ (f k).1 ≤ 0) ∧ 0 ≤ (f k).2 ∧ (f k).2 ≤ 2147483647 := by
    intro f hf
    simp only [zTl, zTn, List.cons_append, List.nil_append, List.mem_cons, List.not_mem_nil, or_false] at hf
    rcases hf with rfl | rfl | rfl | rfl | rfl | rfl | rfl | rfl | rfl | rfl | rfl | rfl | rfl | rfl | rfl | rfl | rfl | rfl | rfl | rfl | rfl | rfl | rfl | rfl | rfl | rfl | rfl | rfl | rfl | rfl | rfl | rfl | rfl | rfl | rfl | rfl | rfl | rfl | rfl | rfl | rfl | rfl | rfl | rfl | rfl | rfl | rfl | rfl | rfl | rfl | rfl | rfl | rfl | rfl | rfl | rfl | rfl | rfl <;> dsimp only [zfull] <;> (repeat' split) <;> decide
  unfold zT
  rw [List.getD_eq_getElem?_getD]
  rcases hq : zTl[a]? with _ | f
  · simp only [Option.getD_none, zfull]; decide
  · exact h f (List.mem_of_getElem? hq)
def zOK (M : zM) : Prop := ∀ a k, (zT a k).1 ≤ M a k ∧ M a k ≤ (zT a k).2
theorem zOK_in {M : zM} (h : zOK M) (a : Nat) (k : Int) : zI (M a k) := by
  have h1 := h a k
  have h2 := zT_in a k
  omega
theorem zOK_up {M : zM} {a : Nat} {j v lo hi : Int} (h : zOK M) (ht : zT a j = (lo, hi)) (h1 : lo ≤ v) (h2 : v ≤ hi) : zOK (uz M a j v) := by
  intro a' k
  unfold uz
  split
  · rename_i e
    subst e
    split
    · rename_i e; subst e; rw [ht]; exact ⟨h1, h2⟩
    · exact h a' k
  · exact h a' k
/-- the static tables -/
def opF (k : Int) : Int := if k < 3 then 0 else if k = 3 then 1 else if k < 10 then 2 else 3
def tabF (k : Int) : Int := if k = 2 then 255 else if k = 3 then 85 else if k = 4 then 136 else if k = 5 then 238 else if k = 6 then 102 else if k = 7 then 119 else if k = 8 then 17 else if k = 9 then 153 else if k = 10 then 216 else 0
theorem opF_in (k : Int) : 0 ≤ opF k ∧ opF k ≤ 3 := by unfold opF; (repeat' split) <;> decide
theorem tabF_in (k : Int) : 0 ≤ tabF k ∧ tabF k ≤ 255 := by unfold tabF; (repeat' split) <;> decide
def scr (G : tl_G) (i : Int) : Int := ((gR G 0).2.2 i.toNat).toInt
def gZ (G : tl_G) : Prop := ((gR G 1).2.1 = 11 ∧ ∀ i : Nat, i < 11 → (gR G 1).2.2 i = Int32.ofInt (opF i)) ∧ ((gR G 2).2.1 = 11 ∧ ∀ i : Nat, i < 11 → (gR G 2).2.2 i = Int32.ofInt (tabF i)) ∧ (gR G 0).2.1 < 2 ^ 31
def tS (G : tl_G) (F : zF) (M : zM) (J : zJ) : tl_S :=
  (fun a => if a < gB G then (0, 0) else F.1 (a - gB G),
   fun a k => if a < gB G then 0 else Int32.ofInt (M (a - gB G) k),
   fun a k => if a < gB G then 0 else J (a - gB G) k,
   fun a k => if a < gB G then none else (F.2.1 (a - gB G) k).map (fun q => gB G + q),
   gB G + F.2.2)
section ZB
variable {G : tl_G} {F : zF} {M : zM} {J : zJ} {a : Nat}
theorem tS_S : sS (tS G F M J) (gB G + a) = F.1 a := by
  have h : ¬ gB G + a < gB G := by omega
  simp [tS, sS, h]
theorem tS_M {k : Nat} : sM (tS G F M J) (gB G + a) k = Int32.ofInt (M a k) := by
  have h : ¬ gB G + a < gB G := by omega
  simp [tS, sM, h]
theorem tS_J {k : Nat} : sJ (tS G F M J) (gB G + a) k = J a k := by
  have h : ¬ gB G + a < gB G := by omega
  simp [tS, sJ, h]
theorem tS_P {k : Nat} : sP (tS G F M J) (gB G + a) k = (F.2.1 a k).map (fun q => gB G + q) := by
  have h : ¬ gB G + a < gB G := by omega
  simp [tS, sP, h]
theorem tS_uM {k : Nat} {x : Int} : (sS (tS G F M J), up2 (sM (tS G F M J)) (gB G + a) k (Int32.ofInt x), sJ (tS G F M J), sP (tS G F M J), sZ (tS G F M J)) = tS G F (uz M a k x) J := by
  have h : up2 (sM (tS G F M J)) (gB G + a) k (Int32.ofInt x) = sM (tS G F (uz M a k x) J) := by
    funext a' k'
    simp only [up2, tS, sM, uz]
    by_cases h1 : a' < gB G
    · rw [if_pos h1, if_pos h1, if_neg (by omega)]
    · rw [if_neg h1, if_neg h1]
      by_cases h2 : a' = gB G + a
      · subst h2
        rw [if_pos rfl, show gB G + a - gB G = a by omega, if_pos rfl]
        by_cases h3 : k' = k
        · subst h3; rw [if_pos rfl, if_pos rfl]
        · rw [if_neg h3, if_neg (by omega)]
      · rw [if_neg h2, if_neg (by omega)]
  rw [h]
  rfl
theorem tS_uJ {k : Nat} {x : Int64} : (sS (tS G F M J), sM (tS G F M J), up2 (sJ (tS G F M J)) (gB G + a) k x, sP (tS G F M J), sZ (tS G F M J)) = tS G F M (uz J a k x) := by
  have h : up2 (sJ (tS G F M J)) (gB G + a) k x = sJ (tS G F M (uz J a k x)) := by
    funext a' k'
    simp only [up2, tS, sJ, uz]
    by_cases h1 : a' < gB G
    · rw [if_pos h1, if_pos h1, if_neg (by omega)]
    · rw [if_neg h1, if_neg h1]
      by_cases h2 : a' = gB G + a
      · subst h2
        rw [if_pos rfl, show gB G + a - gB G = a by omega, if_pos rfl]
        by_cases h3 : k' = k
        · subst h3; rw [if_pos rfl, if_pos rfl]
        · rw [if_neg h3, if_neg (by omega)]
      · rw [if_neg h2, if_neg (by omega)]
  rw [h]
  rfl
end ZB
theorem i32 {x : Int} (h : zI x) : (Int32.ofInt x).toInt = x := Int32.toInt_ofInt_of_le (by omega) (by omega)
theorem i32lt {x y : Int} (hx : zI x) (hy : zI y) : Int32.ofInt x < Int32.ofInt y ↔ x < y := by rw [Int32.lt_iff_toInt_lt, i32 hx, i32 hy]
theorem i32le {x y : Int} (hx : zI x) (hy : zI y) : Int32.ofInt x ≤ Int32.ofInt y ↔ x ≤ y := by rw [Int32.le_iff_toInt_le, i32 hx, i32 hy]
theorem i32eq {x y : Int} (hx : zI x) (hy : zI y) : Int32.ofInt x = Int32.ofInt y ↔ x = y := by rw [← Int32.toInt_inj, i32 hx, i32 hy]
theorem i32n {j : Int} (h0 : 0 ≤ j) (h1 : j < 2147483648) : Int32.ofInt j = nI j.toNat := by
  rw [← Int32.toInt_inj, i32 (by omega), nI_toInt (by omega)]
  omega
theorem zIof (x : Int32) : zI x.toInt := by
  have h1 := x.le_toInt
  have h2 := x.toInt_lt
  omega
theorem zI0 : zI 0 := by decide
def zargs : List zV → List (Option zV)
  | [] => []
  | .inr (.inl x) :: vs => some (vJ x) :: none :: zargs vs
  | v :: vs => some v :: zargs vs
theorem zargs_map {G : tl_G} : ∀ av : List zV, tl_args (av.map (cv G)) = (zargs av).map (Option.map (cv G))
  | [] => rfl
  | .inl z :: vs => by simp only [List.map_cons, tl_args, zargs]; rw [zargs_map vs]; rfl
  | .inr (.inl x) :: vs => by simp only [List.map_cons, tl_args, zargs]; rw [zargs_map vs]; rfl
  | .inr (.inr (.inl x)) :: vs => by simp only [List.map_cons, tl_args, zargs]; rw [zargs_map vs]; rfl
  | .inr (.inr (.inr x)) :: vs => by simp only [List.map_cons, tl_args, zargs]; rw [zargs_map vs]; rfl
theorem zargs_mem : ∀ (av : List zV) (v : zV), some v ∈ zargs av → v ∈ av
  | [], v, h => by simp [zargs] at h
  | .inl z :: vs, v, h => by
    simp only [zargs, List.mem_cons, Option.some.injEq] at h
    rcases h with rfl | h
    · exact List.mem_cons_self
    · exact List.mem_cons_of_mem _ (zargs_mem vs v h)
  | .inr (.inl x) :: vs, v, h => by
    simp only [zargs, List.mem_cons, Option.some.injEq, reduceCtorEq, false_or] at h
    rcases h with rfl | h
    · exact List.mem_cons_self
    · exact List.mem_cons_of_mem _ (zargs_mem vs v h)
  | .inr (.inr (.inl x)) :: vs, v, h => by
    simp only [zargs, List.mem_cons, Option.some.injEq] at h
    rcases h with rfl | h
    · exact List.mem_cons_self
    · exact List.mem_cons_of_mem _ (zargs_mem vs v h)
  | .inr (.inr (.inr x)) :: vs, v, h => by
    simp only [zargs, List.mem_cons, Option.some.injEq] at h
    rcases h with rfl | h
    · exact List.mem_cons_self
    · exact List.mem_cons_of_mem _ (zargs_mem vs v h)
def lsub : List (Option zV) → List (Option zV) → Prop
  | [], _ => True
  | x :: xs, y :: ys => (x = none ∨ x = y) ∧ lsub xs ys
  | _ :: _, [] => False
theorem lsub_get : ∀ {L' L : List (Option zV)}, lsub L' L → ∀ (i : Nat) (v : zV), L'[i]? = some (some v) → L[i]? = some (some v)
  | [], _, _, i, v, h => by simp at h
  | x :: xs, y :: ys, hs, 0, v, h => by
    simp only [List.getElem?_cons_zero, Option.some.injEq] at h ⊢
    rcases hs.1 with e | e
    · rw [e] at h; cases h
    · rw [← e]; exact h
  | x :: xs, y :: ys, hs, i + 1, v, h => by
    simp only [List.getElem?_cons_succ] at h ⊢
    exact lsub_get hs.2 i v h
  | _ :: _, [], hs, _, _, _ => hs.elim
theorem lsub_nil {L : List (Option zV)} : lsub [] L := trivial
theorem lsub_none {x : Option zV} {L' L : List (Option zV)} (h : lsub L' L) : lsub (none :: L') (x :: L) := ⟨Or.inl rfl, h⟩
theorem lsub_same {x : Option zV} {L' L : List (Option zV)} (h : lsub L' L) : lsub (x :: L') (x :: L) := ⟨Or.inr rfl, h⟩
/-- a switch's cases -/
def zcases (P : Int → Prop) (x : Int) : Int → List Int → Prop
  | _, [] => True
  | v, o :: os => (x = v → P o) ∧ zcases P x (v + 1) os
theorem zcases_nil {P : Int → Prop} {x v : Int} : zcases P x v [] := trivial
theorem zcases_cons {P : Int → Prop} {x v o : Int} {os : List Int} (h : x = v → P o) (hs : zcases P x (v + 1) os) : zcases P x v (o :: os) := ⟨h, hs⟩
theorem zcases_get {P : Int → Prop} {x : Int} : ∀ {os : List Int} {v off : Int}, zcases P x v os → v ≤ x → os[(x - v).toNat]? = some off → P off
  | [], v, off, _, _, h => by simp at h
  | o :: os, v, off, hc, hv, h => by
    by_cases he : x = v
    · subst he
      simp at h
      subst h
      exact hc.1 rfl
    · rw [show (x - v).toNat = (x - (v + 1)).toNat + 1 by omega, List.getElem?_cons_succ] at h
      exact zcases_get hc.2 (by omega) h
def lcases (P : Int → Prop) (x : Int) : List (Int × Int) → Prop
  | [] => True
  | p :: ps => (x = p.1 → P p.2) ∧ lcases P x ps
theorem lcases_nil {P : Int → Prop} {x : Int} : lcases P x [] := trivial
theorem lcases_cons {P : Int → Prop} {x : Int} {p : Int × Int} {ps : List (Int × Int)} (h : x = p.1 → P p.2) (hs : lcases P x ps) : lcases P x (p :: ps) := ⟨h, hs⟩
theorem lcases_get {P : Int → Prop} {x : Int} : ∀ {ps : List (Int × Int)} {p : Int × Int}, lcases P x ps → p ∈ ps → x = p.1 → P p.2
  | [], p, _, h, _ => by simp at h
  | q :: ps, p, hc, h, e => by
    rcases List.mem_cons.mp h with rfl | h
    · exact hc.1 e
    · exact lcases_get hc.2 h e
theorem lsw_cases (d x : Int) : ∀ ps : List (Int × Int), (∃ p ∈ ps, x = p.1 ∧ Op.lookupswitch.offset ps d x = p.2) ∨ ((∀ p ∈ ps, x ≠ p.1) ∧ Op.lookupswitch.offset ps d x = d)
  | [] => Or.inr ⟨fun p h => by simp at h, rfl⟩
  | q :: ps => by
    by_cases h : q.1 = x
    · exact Or.inl ⟨q, List.mem_cons_self, h.symm, by rw [show q = (q.1, q.2) from rfl, Op.lookupswitch.offset_cons, if_pos h]⟩
    · rcases lsw_cases d x ps with ⟨p, h1, h2, h3⟩ | ⟨h1, h2⟩
      · exact Or.inl ⟨p, List.mem_cons_of_mem _ h1, h2, by rw [show q = (q.1, q.2) from rfl, Op.lookupswitch.offset_cons, if_neg h]; exact h3⟩
      · refine Or.inr ⟨fun p hp => ?_, by rw [show q = (q.1, q.2) from rfl, Op.lookupswitch.offset_cons, if_neg h]; exact h2⟩
        rcases List.mem_cons.mp hp with rfl | hp
        · exact fun e => h e.symm
        · exact h1 p hp
/-- THE JUDGEMENT: K: the kept addresses, M0 J0: the memory at entry -/
def TZ (G : tl_G) (mt : tl_M) (R : Room) (cells slots : Nat) (K : Nat → Prop) (M0 : zM) (J0 : zJ) (pc : Nat) (L : List (Option zV)) (st : List zV) (F : zF) (M : zM) (J : zJ) (Z : tl_Z) : Prop :=
  gZ G → zOK M → (∀ a, K a → M a = M0 a ∧ J a = J0 a) → (∀ v, some v ∈ L → vok v) → (∀ v ∈ st, vok v) →
    TW G mt R cells slots pc (L.map (Option.map (cv G))) (st.map (cv G)) (tS G F M J) Z
section ZL
variable {G : tl_G} {mt : tl_M} {R : Room} {cells slots pc n : Nat} {K : Nat → Prop} {M0 : zM} {J0 : zJ} {L L' : List (Option zV)} {st : List zV} {F : zF} {M : zM} {J : zJ} {Z : tl_Z}
theorem Z_loc (h : lsub L' L) (k : TZ G mt R cells slots K M0 J0 pc L' st F M J Z) : TZ G mt R cells slots K M0 J0 pc L st F M J Z := by
  intro hg hm hf hl hs
  refine T_loc (L' := L'.map (Option.map (cv G))) (fun i v hv => ?_) (k hg hm hf (fun v hv => ?_) hs)
  · rw [List.getElem?_map] at hv ⊢
    rcases hq : L'[i]? with _ | _ | w
    · rw [hq] at hv; cases hv
    · rw [hq] at hv; cases hv
    · rw [hq] at hv
      rw [lsub_get h i w hq]
      exact hv
  · obtain ⟨i, hi⟩ := List.mem_iff_getElem?.mp hv
    exact hl v (List.mem_iff_getElem?.mpr ⟨i, lsub_get h i v hi⟩)
theorem Z_fr (k : (∀ a, K a → M a = M0 a ∧ J a = J0 a) → TZ G mt R cells slots K M0 J0 pc L st F M J Z) : TZ G mt R cells slots K M0 J0 pc L st F M J Z := fun hg hm hf hl hs => k hf hg hm hf hl hs
theorem Z_ok (k : zOK M → TZ G mt R cells slots K M0 J0 pc L st F M J Z) : TZ G mt R cells slots K M0 J0 pc L st F M J Z := fun hg hm hf hl hs => k hm hg hm hf hl hs
theorem Z_rg (a : Nat) (j : Int) {lo hi : Int} (ht : zT a j = (lo, hi)) (k : lo ≤ M a j → M a j ≤ hi → TZ G mt R cells slots K M0 J0 pc L st F M J Z) : TZ G mt R cells slots K M0 J0 pc L st F M J Z := fun hg hm hf hl hs => by
  have h1 := hm a j
  rw [ht] at h1
  exact k h1.1 h1.2 hg hm hf hl hs
/-- forget what the memory is -/
theorem Z_any (k : ∀ M, TZ G mt R cells slots K M0 J0 pc L st F M J Z) : TZ G mt R cells slots K M0 J0 pc L st F M J Z := k M
theorem Z_iconst {i : Int} (hd : decode mt.2.1 pc = .ok (.iconst i, 1)) (hp : pc + 1 = n) (hv : zI i) (k : TZ G mt R cells slots K M0 J0 n L (vI i :: st) F M J Z) : TZ G mt R cells slots K M0 J0 pc L st F M J Z := by
  intro hg hm hf hl hs
  exact T_iconst hd hp rfl (k hg hm hf hl (List.forall_mem_cons.mpr ⟨hv, hs⟩))
theorem Z_bipush {i : Int} (hd : decode mt.2.1 pc = .ok (.bipush i, 2)) (hp : pc + 2 = n) (hv : zI i) (he : (Int8.ofInt i).toInt32 = Int32.ofInt i) (k : TZ G mt R cells slots K M0 J0 n L (vI i :: st) F M J Z) : TZ G mt R cells slots K M0 J0 pc L st F M J Z := by
  intro hg hm hf hl hs
  exact T_bipush hd hp he (k hg hm hf hl (List.forall_mem_cons.mpr ⟨hv, hs⟩))
theorem Z_sipush {i : Int} (hd : decode mt.2.1 pc = .ok (.sipush i, 3)) (hp : pc + 3 = n) (hv : zI i) (he : (Int16.ofInt i).toInt32 = Int32.ofInt i) (k : TZ G mt R cells slots K M0 J0 n L (vI i :: st) F M J Z) : TZ G mt R cells slots K M0 J0 pc L st F M J Z := by
  intro hg hm hf hl hs
  exact T_sipush hd hp he (k hg hm hf hl (List.forall_mem_cons.mpr ⟨hv, hs⟩))
theorem Z_lconst {i : Fin 2} {v : Int64} (hd : decode mt.2.1 pc = .ok (.lconst i, 1)) (hp : pc + 1 = n) (hv : Int64.ofNat (i : Nat) = v) (k : TZ G mt R cells slots K M0 J0 n L (vJ v :: st) F M J Z) : TZ G mt R cells slots K M0 J0 pc L st F M J Z := by
  intro hg hm hf hl hs
  exact T_lconst hd hp hv (k hg hm hf hl (List.forall_mem_cons.mpr ⟨trivial, hs⟩))
theorem Z_ldc2 {i : Nat} {v : Int64} (hd : decode mt.2.1 pc = .ok (.ldc2_w i, 3)) (hp : pc + 3 = n) (hw : Cond.constantLong mt.1 i v ∈ tl_W) (k : TZ G mt R cells slots K M0 J0 n L (vJ v :: st) F M J Z) : TZ G mt R cells slots K M0 J0 pc L st F M J Z := by
  intro hg hm hf hl hs
  exact T_ldc2 hd hp hw (k hg hm hf hl (List.forall_mem_cons.mpr ⟨trivial, hs⟩))
theorem Z_iload_n {i : Fin 4} {x : Int} (hd : decode mt.2.1 pc = .ok (.iload_n i, 1)) (hp : pc + 1 = n) (hi : L[(i : Nat)]? = some (some (vI x))) (k : TZ G mt R cells slots K M0 J0 n L (vI x :: st) F M J Z) : TZ G mt R cells slots K M0 J0 pc L st F M J Z := by
  intro hg hm hf hl hs
  exact T_iload_n hd hp (by rw [List.getElem?_map, hi]; rfl) (k hg hm hf hl (List.forall_mem_cons.mpr ⟨hl _ (List.mem_of_getElem? hi), hs⟩))
theorem Z_iload {i : Nat} {x : Int} (hd : decode mt.2.1 pc = .ok (.iload i, 2)) (hp : pc + 2 = n) (hi : L[i]? = some (some (vI x))) (k : TZ G mt R cells slots K M0 J0 n L (vI x :: st) F M J Z) : TZ G mt R cells slots K M0 J0 pc L st F M J Z := by
  intro hg hm hf hl hs
  exact T_iload hd hp (by rw [List.getElem?_map, hi]; rfl) (k hg hm hf hl (List.forall_mem_cons.mpr ⟨hl _ (List.mem_of_getElem? hi), hs⟩))
theorem Z_aload_n {i : Fin 4} {x : Nat} (hd : decode mt.2.1 pc = .ok (.aload_n i, 1)) (hp : pc + 1 = n) (hi : L[(i : Nat)]? = some (some (vR x))) (k : TZ G mt R cells slots K M0 J0 n L (vR x :: st) F M J Z) : TZ G mt R cells slots K M0 J0 pc L st F M J Z := by
  intro hg hm hf hl hs
  exact T_aload_n hd hp (by rw [List.getElem?_map, hi]; rfl) (k hg hm hf hl (List.forall_mem_cons.mpr ⟨hl _ (List.mem_of_getElem? hi), hs⟩))
theorem Z_aload {i : Nat} {x : Nat} (hd : decode mt.2.1 pc = .ok (.aload i, 2)) (hp : pc + 2 = n) (hi : L[i]? = some (some (vR x))) (k : TZ G mt R cells slots K M0 J0 n L (vR x :: st) F M J Z) : TZ G mt R cells slots K M0 J0 pc L st F M J Z := by
  intro hg hm hf hl hs
  exact T_aload hd hp (by rw [List.getElem?_map, hi]; rfl) (k hg hm hf hl (List.forall_mem_cons.mpr ⟨hl _ (List.mem_of_getElem? hi), hs⟩))
theorem Z_lload_n {i : Fin 4} {x : Int64} (hd : decode mt.2.1 pc = .ok (.lload_n i, 1)) (hp : pc + 1 = n) (hi : L[(i : Nat)]? = some (some (vJ x))) (k : TZ G mt R cells slots K M0 J0 n L (vJ x :: st) F M J Z) : TZ G mt R cells slots K M0 J0 pc L st F M J Z := by
  intro hg hm hf hl hs
  exact T_lload_n hd hp (by rw [List.getElem?_map, hi]; rfl) (k hg hm hf hl (List.forall_mem_cons.mpr ⟨hl _ (List.mem_of_getElem? hi), hs⟩))
theorem Z_lload {i : Nat} {x : Int64} (hd : decode mt.2.1 pc = .ok (.lload i, 2)) (hp : pc + 2 = n) (hi : L[i]? = some (some (vJ x))) (k : TZ G mt R cells slots K M0 J0 n L (vJ x :: st) F M J Z) : TZ G mt R cells slots K M0 J0 pc L st F M J Z := by
  intro hg hm hf hl hs
  exact T_lload hd hp (by rw [List.getElem?_map, hi]; rfl) (k hg hm hf hl (List.forall_mem_cons.mpr ⟨hl _ (List.mem_of_getElem? hi), hs⟩))
theorem Z_aload_nS {i : Fin 4} {x : Nat} (hd : decode mt.2.1 pc = .ok (.aload_n i, 1)) (hp : pc + 1 = n) (hi : L[(i : Nat)]? = some (some (vS x))) (k : TZ G mt R cells slots K M0 J0 n L (vS x :: st) F M J Z) : TZ G mt R cells slots K M0 J0 pc L st F M J Z := by
  intro hg hm hf hl hs
  exact T_aload_n hd hp (by rw [List.getElem?_map, hi]; rfl) (k hg hm hf hl (List.forall_mem_cons.mpr ⟨trivial, hs⟩))
theorem Z_aloadS {i : Nat} {x : Nat} (hd : decode mt.2.1 pc = .ok (.aload i, 2)) (hp : pc + 2 = n) (hi : L[i]? = some (some (vS x))) (k : TZ G mt R cells slots K M0 J0 n L (vS x :: st) F M J Z) : TZ G mt R cells slots K M0 J0 pc L st F M J Z := by
  intro hg hm hf hl hs
  exact T_aload hd hp (by rw [List.getElem?_map, hi]; rfl) (k hg hm hf hl (List.forall_mem_cons.mpr ⟨trivial, hs⟩))
theorem fr_st {a : Nat} {j x : Int} (hK : ¬ K a) (hf : ∀ a, K a → M a = M0 a ∧ J a = J0 a) : ∀ b, K b → uz M a j x b = M0 b ∧ J b = J0 b := by
  intro b hb
  have hne : b ≠ a := fun e => hK (by rw [← e]; exact hb)
  rw [uz_o hne]
  exact hf b hb
theorem fr_stJ {a : Nat} {j : Int} {x : Int64} (hK : ¬ K a) (hf : ∀ a, K a → M a = M0 a ∧ J a = J0 a) : ∀ b, K b → M b = M0 b ∧ uz J a j x b = J0 b := by
  intro b hb
  have hne : b ≠ a := fun e => hK (by rw [← e]; exact hb)
  rw [uz_o hne]
  exact hf b hb
theorem set_ok {L : List (Option zV)} {i : Nat} {w : zV} (hl : ∀ v, some v ∈ L → vok v) (hw : vok w) : ∀ v, some v ∈ L.set i (some w) → vok v := by
  intro v hv
  rcases List.mem_or_eq_of_mem_set hv with h | h
  · exact hl v h
  · cases h; exact hw
theorem set_ok2 {L : List (Option zV)} {i : Nat} (hl : ∀ v, some v ∈ L → vok v) : ∀ v, some v ∈ L.set i none → vok v := by
  intro v hv
  rcases List.mem_or_eq_of_mem_set hv with h | h
  · exact hl v h
  · cases h
def znl (L : List (Option zV)) (i : Nat) : Bool := match i with
  | 0 => true
  | i + 1 => match L[i]? with
    | some (some (.inr (.inl _))) => false
    | _ => true
theorem znl_ok {G : tl_G} {L : List (Option zV)} {i : Nat} (h : znl L i = true) : tl_nl (L.map (Option.map (cv G))) i = true := by
  cases i with
  | zero => rfl
  | succ i =>
    unfold znl at h
    unfold tl_nl
    simp only [List.getElem?_map]
    rcases hq : L[i]? with _ | _ | w
    · rfl
    · rfl
    · simp only [hq] at h
      rcases w with z | z | z | z
      · rfl
      · cases h
      · rfl
      · rfl
theorem Z_istore_n {i : Fin 4} {x : Int} (hd : decode mt.2.1 pc = .ok (.istore_n i, 1)) (hp : pc + 1 = n) (hn : (i : Nat) < mt.2.2.1) (hk : znl L (i : Nat) = true) (hL : L.set (i : Nat) (some (vI x)) = L') (k : TZ G mt R cells slots K M0 J0 n L' st F M J Z) : TZ G mt R cells slots K M0 J0 pc L (vI x :: st) F M J Z := by
  intro hg hm hf hl hs
  subst hL
  have h1 := k hg hm hf (set_ok hl (hs _ List.mem_cons_self)) (List.forall_mem_cons.mp hs).2
  rw [List.map_set] at h1
  exact T_istore_n hd hp hn (znl_ok hk) h1
theorem Z_istore {i : Nat} {x : Int} (hd : decode mt.2.1 pc = .ok (.istore i, 2)) (hp : pc + 2 = n) (hn : i < mt.2.2.1) (hk : znl L i = true) (hL : L.set i (some (vI x)) = L') (k : TZ G mt R cells slots K M0 J0 n L' st F M J Z) : TZ G mt R cells slots K M0 J0 pc L (vI x :: st) F M J Z := by
  intro hg hm hf hl hs
  subst hL
  have h1 := k hg hm hf (set_ok hl (hs _ List.mem_cons_self)) (List.forall_mem_cons.mp hs).2
  rw [List.map_set] at h1
  exact T_istore hd hp hn (znl_ok hk) h1
theorem Z_astore_n {i : Fin 4} {x : Nat} (hd : decode mt.2.1 pc = .ok (.astore_n i, 1)) (hp : pc + 1 = n) (hn : (i : Nat) < mt.2.2.1) (hk : znl L (i : Nat) = true) (hL : L.set (i : Nat) (some (vR x)) = L') (k : TZ G mt R cells slots K M0 J0 n L' st F M J Z) : TZ G mt R cells slots K M0 J0 pc L (vR x :: st) F M J Z := by
  intro hg hm hf hl hs
  subst hL
  have h1 := k hg hm hf (set_ok hl (hs _ List.mem_cons_self)) (List.forall_mem_cons.mp hs).2
  rw [List.map_set] at h1
  exact T_astore_n hd hp hn (znl_ok hk) h1
theorem Z_astore {i : Nat} {x : Nat} (hd : decode mt.2.1 pc = .ok (.astore i, 2)) (hp : pc + 2 = n) (hn : i < mt.2.2.1) (hk : znl L i = true) (hL : L.set i (some (vR x)) = L') (k : TZ G mt R cells slots K M0 J0 n L' st F M J Z) : TZ G mt R cells slots K M0 J0 pc L (vR x :: st) F M J Z := by
  intro hg hm hf hl hs
  subst hL
  have h1 := k hg hm hf (set_ok hl (hs _ List.mem_cons_self)) (List.forall_mem_cons.mp hs).2
  rw [List.map_set] at h1
  exact T_astore hd hp hn (znl_ok hk) h1
theorem Z_lstore_n {i : Fin 4} {x : Int64} (hd : decode mt.2.1 pc = .ok (.lstore_n i, 1)) (hp : pc + 1 = n) (hn : (i : Nat) + 1 < mt.2.2.1) (hk : znl L (i : Nat) = true) (hL : (L.set (i : Nat) (some (vJ x))).set ((i : Nat) + 1) none = L') (k : TZ G mt R cells slots K M0 J0 n L' st F M J Z) : TZ G mt R cells slots K M0 J0 pc L (vJ x :: st) F M J Z := by
  intro hg hm hf hl hs
  subst hL
  have h1 := k hg hm hf (set_ok2 (set_ok hl (hs _ List.mem_cons_self))) (List.forall_mem_cons.mp hs).2
  rw [List.map_set, List.map_set] at h1
  exact T_lstore_n hd hp hn (znl_ok hk) h1
theorem Z_lstore {i : Nat} {x : Int64} (hd : decode mt.2.1 pc = .ok (.lstore i, 2)) (hp : pc + 2 = n) (hn : i + 1 < mt.2.2.1) (hk : znl L i = true) (hL : (L.set i (some (vJ x))).set (i + 1) none = L') (k : TZ G mt R cells slots K M0 J0 n L' st F M J Z) : TZ G mt R cells slots K M0 J0 pc L (vJ x :: st) F M J Z := by
  intro hg hm hf hl hs
  subst hL
  have h1 := k hg hm hf (set_ok2 (set_ok hl (hs _ List.mem_cons_self))) (List.forall_mem_cons.mp hs).2
  rw [List.map_set, List.map_set] at h1
  exact T_lstore hd hp hn (znl_ok hk) h1
theorem Z_iinc {i : Nat} {d x y : Int} (hd : decode mt.2.1 pc = .ok (.iinc i d, 3)) (hp : pc + 3 = n) (hi : L[i]? = some (some (vI x))) (hn : i < mt.2.2.1) (hk : znl L i = true) (hy : x + d = y) (hr : zI y) (hL : L.set i (some (vI y)) = L') (k : TZ G mt R cells slots K M0 J0 n L' st F M J Z) : TZ G mt R cells slots K M0 J0 pc L st F M J Z := by
  intro hg hm hf hl hs
  subst hL
  subst hy
  have h1 := k hg hm hf (set_ok hl hr) hs
  rw [List.map_set] at h1
  refine T_iinc hd hp (by rw [List.getElem?_map, hi]; rfl) hn (znl_ok hk) ?_
  rw [← Int32.ofInt_add]
  exact h1
theorem Z_iadd {x y : Int} (hd : decode mt.2.1 pc = .ok (.iadd, 1)) (hp : pc + 1 = n) (hr : zI (x + y)) (k : TZ G mt R cells slots K M0 J0 n L (vI (x + y) :: st) F M J Z) : TZ G mt R cells slots K M0 J0 pc L (vI y :: vI x :: st) F M J Z := by
  intro hg hm hf hl hs
  have h1 := k hg hm hf hl (List.forall_mem_cons.mpr ⟨hr, (List.forall_mem_cons.mp (List.forall_mem_cons.mp hs).2).2⟩)
  refine T_iadd (x := Int32.ofInt x) (y := Int32.ofInt y) hd hp ?_
  rw [← Int32.ofInt_add]
  exact h1
theorem Z_isub {x y : Int} (hd : decode mt.2.1 pc = .ok (.isub, 1)) (hp : pc + 1 = n) (hr : zI (x - y)) (k : TZ G mt R cells slots K M0 J0 n L (vI (x - y) :: st) F M J Z) : TZ G mt R cells slots K M0 J0 pc L (vI y :: vI x :: st) F M J Z := by
  intro hg hm hf hl hs
  have h1 := k hg hm hf hl (List.forall_mem_cons.mpr ⟨hr, (List.forall_mem_cons.mp (List.forall_mem_cons.mp hs).2).2⟩)
  refine T_isub (x := Int32.ofInt x) (y := Int32.ofInt y) hd hp ?_
  rw [← Int32.ofInt_sub]
  exact h1
theorem Z_imul {x y : Int} (hd : decode mt.2.1 pc = .ok (.imul, 1)) (hp : pc + 1 = n) (hr : zI (x * y)) (k : TZ G mt R cells slots K M0 J0 n L (vI (x * y) :: st) F M J Z) : TZ G mt R cells slots K M0 J0 pc L (vI y :: vI x :: st) F M J Z := by
  intro hg hm hf hl hs
  have h1 := k hg hm hf hl (List.forall_mem_cons.mpr ⟨hr, (List.forall_mem_cons.mp (List.forall_mem_cons.mp hs).2).2⟩)
  refine T_imul (x := Int32.ofInt x) (y := Int32.ofInt y) hd hp ?_
  rw [← Int32.ofInt_mul]
  exact h1
def wr (x : Int) : Int := (Int32.ofInt x).toInt
theorem wr_eq {x : Int} (h : zI x) : wr x = x := i32 h
theorem Z_iaddw {x y : Int} (hd : decode mt.2.1 pc = .ok (.iadd, 1)) (hp : pc + 1 = n) (k : TZ G mt R cells slots K M0 J0 n L (vI (wr (x + y)) :: st) F M J Z) : TZ G mt R cells slots K M0 J0 pc L (vI y :: vI x :: st) F M J Z := by
  intro hg hm hf hl hs
  have h1 := k hg hm hf hl (List.forall_mem_cons.mpr ⟨zIof _, (List.forall_mem_cons.mp (List.forall_mem_cons.mp hs).2).2⟩)
  refine T_iadd (x := Int32.ofInt x) (y := Int32.ofInt y) hd hp ?_
  have h2 : cv G (vI (wr (x + y))) = .int (Int32.ofInt x + Int32.ofInt y) := by simp only [cv, wr, Int32.ofInt_toInt, Int32.ofInt_add]
  rw [List.map_cons, h2] at h1
  exact h1
def zand (x y : Int) : Int := (Int32.ofInt x &&& Int32.ofInt y).toInt
theorem Z_iand {x y : Int} (hd : decode mt.2.1 pc = .ok (.iand, 1)) (hp : pc + 1 = n) (k : TZ G mt R cells slots K M0 J0 n L (vI (zand x y) :: st) F M J Z) : TZ G mt R cells slots K M0 J0 pc L (vI y :: vI x :: st) F M J Z := by
  intro hg hm hf hl hs
  have h1 := k hg hm hf hl (List.forall_mem_cons.mpr ⟨zIof _, (List.forall_mem_cons.mp (List.forall_mem_cons.mp hs).2).2⟩)
  refine T_iand (x := Int32.ofInt x) (y := Int32.ofInt y) hd hp ?_
  have h2 : cv G (vI (zand x y)) = .int (Int32.ofInt x &&& Int32.ofInt y) := by simp only [cv, zand, Int32.ofInt_toInt]
  rw [List.map_cons, h2] at h1
  exact h1
def zor (x y : Int) : Int := (Int32.ofInt x ||| Int32.ofInt y).toInt
theorem Z_ior {x y : Int} (hd : decode mt.2.1 pc = .ok (.ior, 1)) (hp : pc + 1 = n) (k : TZ G mt R cells slots K M0 J0 n L (vI (zor x y) :: st) F M J Z) : TZ G mt R cells slots K M0 J0 pc L (vI y :: vI x :: st) F M J Z := by
  intro hg hm hf hl hs
  have h1 := k hg hm hf hl (List.forall_mem_cons.mpr ⟨zIof _, (List.forall_mem_cons.mp (List.forall_mem_cons.mp hs).2).2⟩)
  refine T_ior (x := Int32.ofInt x) (y := Int32.ofInt y) hd hp ?_
  have h2 : cv G (vI (zor x y)) = .int (Int32.ofInt x ||| Int32.ofInt y) := by simp only [cv, zor, Int32.ofInt_toInt]
  rw [List.map_cons, h2] at h1
  exact h1
def zxor (x y : Int) : Int := (Int32.ofInt x ^^^ Int32.ofInt y).toInt
theorem Z_ixor {x y : Int} (hd : decode mt.2.1 pc = .ok (.ixor, 1)) (hp : pc + 1 = n) (k : TZ G mt R cells slots K M0 J0 n L (vI (zxor x y) :: st) F M J Z) : TZ G mt R cells slots K M0 J0 pc L (vI y :: vI x :: st) F M J Z := by
  intro hg hm hf hl hs
  have h1 := k hg hm hf hl (List.forall_mem_cons.mpr ⟨zIof _, (List.forall_mem_cons.mp (List.forall_mem_cons.mp hs).2).2⟩)
  refine T_ixor (x := Int32.ofInt x) (y := Int32.ofInt y) hd hp ?_
  have h2 : cv G (vI (zxor x y)) = .int (Int32.ofInt x ^^^ Int32.ofInt y) := by simp only [cv, zxor, Int32.ofInt_toInt]
  rw [List.map_cons, h2] at h1
  exact h1
def zshl (x y : Int) : Int := (Int32.ofInt x <<< (Int32.ofInt y &&& 31)).toInt
theorem Z_ishl {x y : Int} (hd : decode mt.2.1 pc = .ok (.ishl, 1)) (hp : pc + 1 = n) (k : TZ G mt R cells slots K M0 J0 n L (vI (zshl x y) :: st) F M J Z) : TZ G mt R cells slots K M0 J0 pc L (vI y :: vI x :: st) F M J Z := by
  intro hg hm hf hl hs
  have h1 := k hg hm hf hl (List.forall_mem_cons.mpr ⟨zIof _, (List.forall_mem_cons.mp (List.forall_mem_cons.mp hs).2).2⟩)
  refine T_ishl (x := Int32.ofInt x) (y := Int32.ofInt y) hd hp ?_
  have h2 : cv G (vI (zshl x y)) = .int (Int32.ofInt x <<< (Int32.ofInt y &&& 31)) := by simp only [cv, zshl, Int32.ofInt_toInt]
  rw [List.map_cons, h2] at h1
  exact h1
def zshr (x y : Int) : Int := (Int32.ofInt x >>> (Int32.ofInt y &&& 31)).toInt
theorem Z_ishr {x y : Int} (hd : decode mt.2.1 pc = .ok (.ishr, 1)) (hp : pc + 1 = n) (k : TZ G mt R cells slots K M0 J0 n L (vI (zshr x y) :: st) F M J Z) : TZ G mt R cells slots K M0 J0 pc L (vI y :: vI x :: st) F M J Z := by
  intro hg hm hf hl hs
  have h1 := k hg hm hf hl (List.forall_mem_cons.mpr ⟨zIof _, (List.forall_mem_cons.mp (List.forall_mem_cons.mp hs).2).2⟩)
  refine T_ishr (x := Int32.ofInt x) (y := Int32.ofInt y) hd hp ?_
  have h2 : cv G (vI (zshr x y)) = .int (Int32.ofInt x >>> (Int32.ofInt y &&& 31)) := by simp only [cv, zshr, Int32.ofInt_toInt]
  rw [List.map_cons, h2] at h1
  exact h1
def zdiv (x y : Int) : Int := (Int32.ofInt x / Int32.ofInt y).toInt
theorem Z_idiv {x y : Int} (hd : decode mt.2.1 pc = .ok (.idiv, 1)) (hp : pc + 1 = n) (hy : zI y) (h0 : y ≠ 0) (k : TZ G mt R cells slots K M0 J0 n L (vI (zdiv x y) :: st) F M J Z) : TZ G mt R cells slots K M0 J0 pc L (vI y :: vI x :: st) F M J Z := by
  intro hg hm hf hl hs
  have h1 := k hg hm hf hl (List.forall_mem_cons.mpr ⟨zIof _, (List.forall_mem_cons.mp (List.forall_mem_cons.mp hs).2).2⟩)
  refine T_idiv (x := Int32.ofInt x) (y := Int32.ofInt y) hd hp (fun h => h0 ((i32eq hy zI0).mp h)) ?_
  have h2 : cv G (vI (zdiv x y)) = .int (Int32.ofInt x / Int32.ofInt y) := by simp only [cv, zdiv, Int32.ofInt_toInt]
  rw [List.map_cons, h2] at h1
  exact h1
def zrem (x y : Int) : Int := (Int32.ofInt x - Int32.ofInt x / Int32.ofInt y * Int32.ofInt y).toInt
theorem Z_irem {x y : Int} (hd : decode mt.2.1 pc = .ok (.irem, 1)) (hp : pc + 1 = n) (hy : zI y) (h0 : y ≠ 0) (k : TZ G mt R cells slots K M0 J0 n L (vI (zrem x y) :: st) F M J Z) : TZ G mt R cells slots K M0 J0 pc L (vI y :: vI x :: st) F M J Z := by
  intro hg hm hf hl hs
  have h1 := k hg hm hf hl (List.forall_mem_cons.mpr ⟨zIof _, (List.forall_mem_cons.mp (List.forall_mem_cons.mp hs).2).2⟩)
  refine T_irem (x := Int32.ofInt x) (y := Int32.ofInt y) hd hp (fun h => h0 ((i32eq hy zI0).mp h)) ?_
  have h2 : cv G (vI (zrem x y)) = .int (Int32.ofInt x - Int32.ofInt x / Int32.ofInt y * Int32.ofInt y) := by simp only [cv, zrem, Int32.ofInt_toInt]
  rw [List.map_cons, h2] at h1
  exact h1
theorem Z_ladd {x y : Int64} (hd : decode mt.2.1 pc = .ok (.ladd, 1)) (hp : pc + 1 = n) (k : TZ G mt R cells slots K M0 J0 n L (vJ (x + y) :: st) F M J Z) : TZ G mt R cells slots K M0 J0 pc L (vJ y :: vJ x :: st) F M J Z := by
  intro hg hm hf hl hs
  exact T_ladd hd hp (k hg hm hf hl (List.forall_mem_cons.mpr ⟨trivial, (List.forall_mem_cons.mp (List.forall_mem_cons.mp hs).2).2⟩))
theorem Z_lsub {x y : Int64} (hd : decode mt.2.1 pc = .ok (.lsub, 1)) (hp : pc + 1 = n) (k : TZ G mt R cells slots K M0 J0 n L (vJ (x - y) :: st) F M J Z) : TZ G mt R cells slots K M0 J0 pc L (vJ y :: vJ x :: st) F M J Z := by
  intro hg hm hf hl hs
  exact T_lsub hd hp (k hg hm hf hl (List.forall_mem_cons.mpr ⟨trivial, (List.forall_mem_cons.mp (List.forall_mem_cons.mp hs).2).2⟩))
theorem Z_lmul {x y : Int64} (hd : decode mt.2.1 pc = .ok (.lmul, 1)) (hp : pc + 1 = n) (k : TZ G mt R cells slots K M0 J0 n L (vJ (x * y) :: st) F M J Z) : TZ G mt R cells slots K M0 J0 pc L (vJ y :: vJ x :: st) F M J Z := by
  intro hg hm hf hl hs
  exact T_lmul hd hp (k hg hm hf hl (List.forall_mem_cons.mpr ⟨trivial, (List.forall_mem_cons.mp (List.forall_mem_cons.mp hs).2).2⟩))
theorem Z_land {x y : Int64} (hd : decode mt.2.1 pc = .ok (.land, 1)) (hp : pc + 1 = n) (k : TZ G mt R cells slots K M0 J0 n L (vJ (x &&& y) :: st) F M J Z) : TZ G mt R cells slots K M0 J0 pc L (vJ y :: vJ x :: st) F M J Z := by
  intro hg hm hf hl hs
  exact T_land hd hp (k hg hm hf hl (List.forall_mem_cons.mpr ⟨trivial, (List.forall_mem_cons.mp (List.forall_mem_cons.mp hs).2).2⟩))
theorem Z_lor {x y : Int64} (hd : decode mt.2.1 pc = .ok (.lor, 1)) (hp : pc + 1 = n) (k : TZ G mt R cells slots K M0 J0 n L (vJ (x ||| y) :: st) F M J Z) : TZ G mt R cells slots K M0 J0 pc L (vJ y :: vJ x :: st) F M J Z := by
  intro hg hm hf hl hs
  exact T_lor hd hp (k hg hm hf hl (List.forall_mem_cons.mpr ⟨trivial, (List.forall_mem_cons.mp (List.forall_mem_cons.mp hs).2).2⟩))
theorem Z_lxor {x y : Int64} (hd : decode mt.2.1 pc = .ok (.lxor, 1)) (hp : pc + 1 = n) (k : TZ G mt R cells slots K M0 J0 n L (vJ (x ^^^ y) :: st) F M J Z) : TZ G mt R cells slots K M0 J0 pc L (vJ y :: vJ x :: st) F M J Z := by
  intro hg hm hf hl hs
  exact T_lxor hd hp (k hg hm hf hl (List.forall_mem_cons.mpr ⟨trivial, (List.forall_mem_cons.mp (List.forall_mem_cons.mp hs).2).2⟩))
def zlshl (x : Int64) (y : Int) : Int64 := x <<< ((Int32.ofInt y).toInt64 &&& 63)
theorem Z_lshl {x : Int64} {y : Int} (hd : decode mt.2.1 pc = .ok (.lshl, 1)) (hp : pc + 1 = n) (k : TZ G mt R cells slots K M0 J0 n L (vJ (zlshl x y) :: st) F M J Z) : TZ G mt R cells slots K M0 J0 pc L (vI y :: vJ x :: st) F M J Z := by
  intro hg hm hf hl hs
  exact T_lshl (x := x) (y := Int32.ofInt y) hd hp (k hg hm hf hl (List.forall_mem_cons.mpr ⟨trivial, (List.forall_mem_cons.mp (List.forall_mem_cons.mp hs).2).2⟩))
def zlshr (x : Int64) (y : Int) : Int64 := x >>> ((Int32.ofInt y).toInt64 &&& 63)
theorem Z_lshr {x : Int64} {y : Int} (hd : decode mt.2.1 pc = .ok (.lshr, 1)) (hp : pc + 1 = n) (k : TZ G mt R cells slots K M0 J0 n L (vJ (zlshr x y) :: st) F M J Z) : TZ G mt R cells slots K M0 J0 pc L (vI y :: vJ x :: st) F M J Z := by
  intro hg hm hf hl hs
  exact T_lshr (x := x) (y := Int32.ofInt y) hd hp (k hg hm hf hl (List.forall_mem_cons.mpr ⟨trivial, (List.forall_mem_cons.mp (List.forall_mem_cons.mp hs).2).2⟩))
def zlushr (x : Int64) (y : Int) : Int64 := (x.toUInt64 >>> ((Int32.ofInt y).toInt64.toUInt64 &&& Int64.toUInt64 63)).toInt64
theorem Z_lushr {x : Int64} {y : Int} (hd : decode mt.2.1 pc = .ok (.lushr, 1)) (hp : pc + 1 = n) (k : TZ G mt R cells slots K M0 J0 n L (vJ (zlushr x y) :: st) F M J Z) : TZ G mt R cells slots K M0 J0 pc L (vI y :: vJ x :: st) F M J Z := by
  intro hg hm hf hl hs
  exact T_lushr (x := x) (y := Int32.ofInt y) hd hp (k hg hm hf hl (List.forall_mem_cons.mpr ⟨trivial, (List.forall_mem_cons.mp (List.forall_mem_cons.mp hs).2).2⟩))
def zcmp (x y : Int64) : Int := (lg_cmp x y).toInt
theorem Z_lcmp {x y : Int64} (hd : decode mt.2.1 pc = .ok (.lcmp, 1)) (hp : pc + 1 = n) (k : TZ G mt R cells slots K M0 J0 n L (vI (zcmp x y) :: st) F M J Z) : TZ G mt R cells slots K M0 J0 pc L (vJ y :: vJ x :: st) F M J Z := by
  intro hg hm hf hl hs
  have h1 := k hg hm hf hl (List.forall_mem_cons.mpr ⟨zIof _, (List.forall_mem_cons.mp (List.forall_mem_cons.mp hs).2).2⟩)
  refine T_lcmp (x := x) (y := y) hd hp ?_
  have h2 : cv G (vI (zcmp x y)) = .int (lg_cmp x y) := by simp only [cv, zcmp, Int32.ofInt_toInt]
  rw [List.map_cons, h2] at h1
  exact h1
theorem Z_i2l {x : Int} (hd : decode mt.2.1 pc = .ok (.i2l, 1)) (hp : pc + 1 = n) (k : TZ G mt R cells slots K M0 J0 n L (vJ (Int32.ofInt x).toInt64 :: st) F M J Z) : TZ G mt R cells slots K M0 J0 pc L (vI x :: st) F M J Z := by
  intro hg hm hf hl hs
  exact T_i2l (x := Int32.ofInt x) hd hp (k hg hm hf hl (List.forall_mem_cons.mpr ⟨trivial, (List.forall_mem_cons.mp hs).2⟩))
def zl2i (x : Int64) : Int := x.toInt32.toInt
theorem Z_l2i {x : Int64} (hd : decode mt.2.1 pc = .ok (.l2i, 1)) (hp : pc + 1 = n) (k : TZ G mt R cells slots K M0 J0 n L (vI (zl2i x) :: st) F M J Z) : TZ G mt R cells slots K M0 J0 pc L (vJ x :: st) F M J Z := by
  intro hg hm hf hl hs
  have h1 := k hg hm hf hl (List.forall_mem_cons.mpr ⟨zIof _, (List.forall_mem_cons.mp hs).2⟩)
  refine T_l2i (x := x) hd hp ?_
  have h2 : cv G (vI (zl2i x)) = .int x.toInt32 := by simp only [cv, zl2i, Int32.ofInt_toInt]
  rw [List.map_cons, h2] at h1
  exact h1
def zc1 (v : zV) : Bool := match v with
  | .inr (.inl _) => false
  | _ => true
theorem zc1_ok {G : tl_G} {v : zV} (h : zc1 v = true) : (cv G v).category = 1 := by
  match v, h with
  | .inl z, _ => rfl
  | .inr (.inr (.inl z)), _ => rfl
  | .inr (.inr (.inr z)), _ => rfl
theorem Z_dup {v : zV} (hd : decode mt.2.1 pc = .ok (.dup, 1)) (hp : pc + 1 = n) (hv : zc1 v = true) (k : TZ G mt R cells slots K M0 J0 n L (v :: v :: st) F M J Z) : TZ G mt R cells slots K M0 J0 pc L (v :: st) F M J Z := by
  intro hg hm hf hl hs
  exact T_dup hd hp (zc1_ok hv) (k hg hm hf hl (List.forall_mem_cons.mpr ⟨hs _ List.mem_cons_self, hs⟩))
theorem Z_pop {v : zV} (hd : decode mt.2.1 pc = .ok (.pop, 1)) (hp : pc + 1 = n) (hv : zc1 v = true) (k : TZ G mt R cells slots K M0 J0 n L st F M J Z) : TZ G mt R cells slots K M0 J0 pc L (v :: st) F M J Z := by
  intro hg hm hf hl hs
  exact T_pop hd hp (zc1_ok hv) (k hg hm hf hl (List.forall_mem_cons.mp hs).2)
theorem Z_dup2 {v u : zV} (hd : decode mt.2.1 pc = .ok (.dup2, 1)) (hp : pc + 1 = n) (hv : zc1 v = true) (hu : zc1 u = true) (k : TZ G mt R cells slots K M0 J0 n L (v :: u :: v :: u :: st) F M J Z) : TZ G mt R cells slots K M0 J0 pc L (v :: u :: st) F M J Z := by
  intro hg hm hf hl hs
  exact T_dup2 hd hp (zc1_ok hv) (zc1_ok hu) (k hg hm hf hl (List.forall_mem_cons.mpr ⟨hs _ List.mem_cons_self, List.forall_mem_cons.mpr ⟨(List.forall_mem_cons.mp (List.forall_mem_cons.mp hs).2).1, hs⟩⟩))
theorem Z_if_eq {x : Int} {off : Int} {t : Nat} (hd : decode mt.2.1 pc = .ok (.ifCond .eq off, 3)) (hp : pc + 3 = n) (ht : (pc : Int) + off = (t : Int)) (kt : x = 0 → TZ G mt R cells slots K M0 J0 t L st F M J Z) (kf : ¬ x = 0 → TZ G mt R cells slots K M0 J0 n L st F M J Z) : TZ G mt R cells slots K M0 J0 pc L (vI x :: st) F M J Z := by
  intro hg hm hf hl hs
  have hx : zI x := (List.forall_mem_cons.mp hs).1
  have ht2 := (List.forall_mem_cons.mp hs).2
  exact T_if_eq (x := Int32.ofInt x) hd hp ht (fun h => (fun h => kt ((i32eq hx zI0).mp h)) h hg hm hf hl ht2) (fun h => (fun h => kf (fun e => h ((i32eq hx zI0).mpr e))) h hg hm hf hl ht2)
theorem Z_icmp_eq {x y : Int} {off : Int} {t : Nat} (hd : decode mt.2.1 pc = .ok (.if_icmp .eq off, 3)) (hp : pc + 3 = n) (ht : (pc : Int) + off = (t : Int)) (kt : x = y → TZ G mt R cells slots K M0 J0 t L st F M J Z) (kf : ¬ x = y → TZ G mt R cells slots K M0 J0 n L st F M J Z) : TZ G mt R cells slots K M0 J0 pc L (vI y :: vI x :: st) F M J Z := by
  intro hg hm hf hl hs
  have hx : zI x := (List.forall_mem_cons.mp (List.forall_mem_cons.mp hs).2).1
  have hy : zI y := (List.forall_mem_cons.mp hs).1
  have ht2 := (List.forall_mem_cons.mp (List.forall_mem_cons.mp hs).2).2
  exact T_icmp_eq (x := Int32.ofInt x) (y := Int32.ofInt y) hd hp ht (fun h => (fun h => kt ((i32eq hx hy).mp h)) h hg hm hf hl ht2) (fun h => (fun h => kf (fun e => h ((i32eq hx hy).mpr e))) h hg hm hf hl ht2)
theorem Z_if_ne {x : Int} {off : Int} {t : Nat} (hd : decode mt.2.1 pc = .ok (.ifCond .ne off, 3)) (hp : pc + 3 = n) (ht : (pc : Int) + off = (t : Int)) (kt : ¬ x = 0 → TZ G mt R cells slots K M0 J0 t L st F M J Z) (kf : x = 0 → TZ G mt R cells slots K M0 J0 n L st F M J Z) : TZ G mt R cells slots K M0 J0 pc L (vI x :: st) F M J Z := by
  intro hg hm hf hl hs
  have hx : zI x := (List.forall_mem_cons.mp hs).1
  have ht2 := (List.forall_mem_cons.mp hs).2
  exact T_if_ne (x := Int32.ofInt x) hd hp ht (fun h => (fun h => kt (fun e => h ((i32eq hx zI0).mpr e))) h hg hm hf hl ht2) (fun h => (fun h => kf ((i32eq hx zI0).mp h)) h hg hm hf hl ht2)
theorem Z_icmp_ne {x y : Int} {off : Int} {t : Nat} (hd : decode mt.2.1 pc = .ok (.if_icmp .ne off, 3)) (hp : pc + 3 = n) (ht : (pc : Int) + off = (t : Int)) (kt : ¬ x = y → TZ G mt R cells slots K M0 J0 t L st F M J Z) (kf : x = y → TZ G mt R cells slots K M0 J0 n L st F M J Z) : TZ G mt R cells slots K M0 J0 pc L (vI y :: vI x :: st) F M J Z := by
  intro hg hm hf hl hs
  have hx : zI x := (List.forall_mem_cons.mp (List.forall_mem_cons.mp hs).2).1
  have hy : zI y := (List.forall_mem_cons.mp hs).1
  have ht2 := (List.forall_mem_cons.mp (List.forall_mem_cons.mp hs).2).2
  exact T_icmp_ne (x := Int32.ofInt x) (y := Int32.ofInt y) hd hp ht (fun h => (fun h => kt (fun e => h ((i32eq hx hy).mpr e))) h hg hm hf hl ht2) (fun h => (fun h => kf ((i32eq hx hy).mp h)) h hg hm hf hl ht2)
theorem Z_if_lt {x : Int} {off : Int} {t : Nat} (hd : decode mt.2.1 pc = .ok (.ifCond .lt off, 3)) (hp : pc + 3 = n) (ht : (pc : Int) + off = (t : Int)) (kt : x < 0 → TZ G mt R cells slots K M0 J0 t L st F M J Z) (kf : ¬ x < 0 → TZ G mt R cells slots K M0 J0 n L st F M J Z) : TZ G mt R cells slots K M0 J0 pc L (vI x :: st) F M J Z := by
  intro hg hm hf hl hs
  have hx : zI x := (List.forall_mem_cons.mp hs).1
  have ht2 := (List.forall_mem_cons.mp hs).2
  exact T_if_lt (x := Int32.ofInt x) hd hp ht (fun h => (fun h => kt ((i32lt hx zI0).mp h)) h hg hm hf hl ht2) (fun h => (fun h => kf (fun e => h ((i32lt hx zI0).mpr e))) h hg hm hf hl ht2)
theorem Z_icmp_lt {x y : Int} {off : Int} {t : Nat} (hd : decode mt.2.1 pc = .ok (.if_icmp .lt off, 3)) (hp : pc + 3 = n) (ht : (pc : Int) + off = (t : Int)) (kt : x < y → TZ G mt R cells slots K M0 J0 t L st F M J Z) (kf : ¬ x < y → TZ G mt R cells slots K M0 J0 n L st F M J Z) : TZ G mt R cells slots K M0 J0 pc L (vI y :: vI x :: st) F M J Z := by
  intro hg hm hf hl hs
  have hx : zI x := (List.forall_mem_cons.mp (List.forall_mem_cons.mp hs).2).1
  have hy : zI y := (List.forall_mem_cons.mp hs).1
  have ht2 := (List.forall_mem_cons.mp (List.forall_mem_cons.mp hs).2).2
  exact T_icmp_lt (x := Int32.ofInt x) (y := Int32.ofInt y) hd hp ht (fun h => (fun h => kt ((i32lt hx hy).mp h)) h hg hm hf hl ht2) (fun h => (fun h => kf (fun e => h ((i32lt hx hy).mpr e))) h hg hm hf hl ht2)
theorem Z_if_ge {x : Int} {off : Int} {t : Nat} (hd : decode mt.2.1 pc = .ok (.ifCond .ge off, 3)) (hp : pc + 3 = n) (ht : (pc : Int) + off = (t : Int)) (kt : 0 ≤ x → TZ G mt R cells slots K M0 J0 t L st F M J Z) (kf : ¬ 0 ≤ x → TZ G mt R cells slots K M0 J0 n L st F M J Z) : TZ G mt R cells slots K M0 J0 pc L (vI x :: st) F M J Z := by
  intro hg hm hf hl hs
  have hx : zI x := (List.forall_mem_cons.mp hs).1
  have ht2 := (List.forall_mem_cons.mp hs).2
  exact T_if_ge (x := Int32.ofInt x) hd hp ht (fun h => (fun h => kt ((i32le zI0 hx).mp h)) h hg hm hf hl ht2) (fun h => (fun h => kf (fun e => h ((i32le zI0 hx).mpr e))) h hg hm hf hl ht2)
theorem Z_icmp_ge {x y : Int} {off : Int} {t : Nat} (hd : decode mt.2.1 pc = .ok (.if_icmp .ge off, 3)) (hp : pc + 3 = n) (ht : (pc : Int) + off = (t : Int)) (kt : y ≤ x → TZ G mt R cells slots K M0 J0 t L st F M J Z) (kf : ¬ y ≤ x → TZ G mt R cells slots K M0 J0 n L st F M J Z) : TZ G mt R cells slots K M0 J0 pc L (vI y :: vI x :: st) F M J Z := by
  intro hg hm hf hl hs
  have hx : zI x := (List.forall_mem_cons.mp (List.forall_mem_cons.mp hs).2).1
  have hy : zI y := (List.forall_mem_cons.mp hs).1
  have ht2 := (List.forall_mem_cons.mp (List.forall_mem_cons.mp hs).2).2
  exact T_icmp_ge (x := Int32.ofInt x) (y := Int32.ofInt y) hd hp ht (fun h => (fun h => kt ((i32le hy hx).mp h)) h hg hm hf hl ht2) (fun h => (fun h => kf (fun e => h ((i32le hy hx).mpr e))) h hg hm hf hl ht2)
theorem Z_if_gt {x : Int} {off : Int} {t : Nat} (hd : decode mt.2.1 pc = .ok (.ifCond .gt off, 3)) (hp : pc + 3 = n) (ht : (pc : Int) + off = (t : Int)) (kt : 0 < x → TZ G mt R cells slots K M0 J0 t L st F M J Z) (kf : ¬ 0 < x → TZ G mt R cells slots K M0 J0 n L st F M J Z) : TZ G mt R cells slots K M0 J0 pc L (vI x :: st) F M J Z := by
  intro hg hm hf hl hs
  have hx : zI x := (List.forall_mem_cons.mp hs).1
  have ht2 := (List.forall_mem_cons.mp hs).2
  exact T_if_gt (x := Int32.ofInt x) hd hp ht (fun h => (fun h => kt ((i32lt zI0 hx).mp h)) h hg hm hf hl ht2) (fun h => (fun h => kf (fun e => h ((i32lt zI0 hx).mpr e))) h hg hm hf hl ht2)
theorem Z_icmp_gt {x y : Int} {off : Int} {t : Nat} (hd : decode mt.2.1 pc = .ok (.if_icmp .gt off, 3)) (hp : pc + 3 = n) (ht : (pc : Int) + off = (t : Int)) (kt : y < x → TZ G mt R cells slots K M0 J0 t L st F M J Z) (kf : ¬ y < x → TZ G mt R cells slots K M0 J0 n L st F M J Z) : TZ G mt R cells slots K M0 J0 pc L (vI y :: vI x :: st) F M J Z := by
  intro hg hm hf hl hs
  have hx : zI x := (List.forall_mem_cons.mp (List.forall_mem_cons.mp hs).2).1
  have hy : zI y := (List.forall_mem_cons.mp hs).1
  have ht2 := (List.forall_mem_cons.mp (List.forall_mem_cons.mp hs).2).2
  exact T_icmp_gt (x := Int32.ofInt x) (y := Int32.ofInt y) hd hp ht (fun h => (fun h => kt ((i32lt hy hx).mp h)) h hg hm hf hl ht2) (fun h => (fun h => kf (fun e => h ((i32lt hy hx).mpr e))) h hg hm hf hl ht2)
theorem Z_if_le {x : Int} {off : Int} {t : Nat} (hd : decode mt.2.1 pc = .ok (.ifCond .le off, 3)) (hp : pc + 3 = n) (ht : (pc : Int) + off = (t : Int)) (kt : x ≤ 0 → TZ G mt R cells slots K M0 J0 t L st F M J Z) (kf : ¬ x ≤ 0 → TZ G mt R cells slots K M0 J0 n L st F M J Z) : TZ G mt R cells slots K M0 J0 pc L (vI x :: st) F M J Z := by
  intro hg hm hf hl hs
  have hx : zI x := (List.forall_mem_cons.mp hs).1
  have ht2 := (List.forall_mem_cons.mp hs).2
  exact T_if_le (x := Int32.ofInt x) hd hp ht (fun h => (fun h => kt ((i32le hx zI0).mp h)) h hg hm hf hl ht2) (fun h => (fun h => kf (fun e => h ((i32le hx zI0).mpr e))) h hg hm hf hl ht2)
theorem Z_icmp_le {x y : Int} {off : Int} {t : Nat} (hd : decode mt.2.1 pc = .ok (.if_icmp .le off, 3)) (hp : pc + 3 = n) (ht : (pc : Int) + off = (t : Int)) (kt : x ≤ y → TZ G mt R cells slots K M0 J0 t L st F M J Z) (kf : ¬ x ≤ y → TZ G mt R cells slots K M0 J0 n L st F M J Z) : TZ G mt R cells slots K M0 J0 pc L (vI y :: vI x :: st) F M J Z := by
  intro hg hm hf hl hs
  have hx : zI x := (List.forall_mem_cons.mp (List.forall_mem_cons.mp hs).2).1
  have hy : zI y := (List.forall_mem_cons.mp hs).1
  have ht2 := (List.forall_mem_cons.mp (List.forall_mem_cons.mp hs).2).2
  exact T_icmp_le (x := Int32.ofInt x) (y := Int32.ofInt y) hd hp ht (fun h => (fun h => kt ((i32le hx hy).mp h)) h hg hm hf hl ht2) (fun h => (fun h => kf (fun e => h ((i32le hx hy).mpr e))) h hg hm hf hl ht2)
theorem Z_goto {off : Int} {t : Nat} (hd : decode mt.2.1 pc = .ok (.goto off, 3)) (ht : (pc : Int) + off = (t : Int)) (k : TZ G mt R cells slots K M0 J0 t L st F M J Z) : TZ G mt R cells slots K M0 J0 pc L st F M J Z := fun hg hm hf hl hs => T_goto hd ht (k hg hm hf hl hs)
theorem Z_tin {x : Int} {d lo hi off : Int} {offs : Array Int} {len t : Nat} (hd : decode mt.2.1 pc = .ok (.tableswitch d lo hi offs, len)) (h1 : lo ≤ x) (h2 : x ≤ hi) (ho : offs[(x - lo).toNat]? = some off) (ht : (pc : Int) + off = (t : Int)) (k : TZ G mt R cells slots K M0 J0 t L st F M J Z) : TZ G mt R cells slots K M0 J0 pc L (vI x :: st) F M J Z := by
  intro hg hm hf hl hs
  have hx : (Int32.ofInt x).toInt = x := i32 (List.forall_mem_cons.mp hs).1
  exact T_tin (x := Int32.ofInt x) hd (by rw [hx]; omega) (by rw [hx]; omega) (by rw [hx]; exact ho) ht (k hg hm hf hl (List.forall_mem_cons.mp hs).2)
theorem Z_tout {x : Int} {d lo hi : Int} {offs : Array Int} {len t : Nat} (hd : decode mt.2.1 pc = .ok (.tableswitch d lo hi offs, len)) (h1 : x < lo ∨ hi < x) (ht : (pc : Int) + d = (t : Int)) (k : TZ G mt R cells slots K M0 J0 t L st F M J Z) : TZ G mt R cells slots K M0 J0 pc L (vI x :: st) F M J Z := by
  intro hg hm hf hl hs
  have hx : (Int32.ofInt x).toInt = x := i32 (List.forall_mem_cons.mp hs).1
  exact T_tout (x := Int32.ofInt x) hd (by rw [hx]; exact h1) ht (k hg hm hf hl (List.forall_mem_cons.mp hs).2)
theorem Z_lsw {x : Int} {d off : Int} {ps : Array (Int × Int)} {len t : Nat} (hd : decode mt.2.1 pc = .ok (.lookupswitch d ps, len)) (hq : (ps.toList.zip (ps.toList.drop 1)).all (fun (a, next) => a.1 < next.1) = true) (ho : Op.lookupswitch.offset ps.toList d x = off) (ht : (pc : Int) + off = (t : Int)) (k : TZ G mt R cells slots K M0 J0 t L st F M J Z) : TZ G mt R cells slots K M0 J0 pc L (vI x :: st) F M J Z := by
  intro hg hm hf hl hs
  have hx : (Int32.ofInt x).toInt = x := i32 (List.forall_mem_cons.mp hs).1
  exact T_lsw (x := Int32.ofInt x) hd hq (by rw [hx]; exact ho) ht (k hg hm hf hl (List.forall_mem_cons.mp hs).2)
theorem Z_getI {idx ci k a : Nat} {fin : Bool} {ki lo hi : Int} (hd : decode mt.2.1 pc = .ok (.getfield idx, 3)) (hp : pc + 3 = n) (hf0 : tl_FF mt.1 idx ci k .int fin) (hk : (k : Int) = ki) (hsh : F.1 a = (1, ci)) (ht : zT a ki = (lo, hi)) (kk : lo ≤ M a ki → M a ki ≤ hi → TZ G mt R cells slots K M0 J0 n L (vI (M a ki) :: st) F M J Z) : TZ G mt R cells slots K M0 J0 pc L (vR a :: st) F M J Z := by
  intro hg hm hf hl hs
  subst hk
  have h1 := hm a k
  rw [ht] at h1
  refine T_getI hd hp hf0 (by rw [tS_S]; exact hsh) ?_
  rw [tS_M]
  exact kk h1.1 h1.2 hg hm hf hl (List.forall_mem_cons.mpr ⟨zOK_in hm _ _, (List.forall_mem_cons.mp hs).2⟩)
theorem Z_putI {idx ci k a : Nat} {fin : Bool} {ki x lo hi : Int} (hd : decode mt.2.1 pc = .ok (.putfield idx, 3)) (hp : pc + 3 = n) (hf0 : tl_FF mt.1 idx ci k .int fin) (hk : (k : Int) = ki) (hfi : fin = true → mt.2.2.2.2 = "<init>") (hsh : F.1 a = (1, ci)) (ht : zT a ki = (lo, hi)) (h1 : lo ≤ x) (h2 : x ≤ hi) (hK : ¬ K a) (kk : TZ G mt R cells slots K M0 J0 n L st F (uz M a ki x) J Z) : TZ G mt R cells slots K M0 J0 pc L (vI x :: vR a :: st) F M J Z := by
  intro hg hm hf hl hs
  subst hk
  refine T_putI hd hp hf0 hfi (by rw [tS_S]; exact hsh) ?_
  rw [tS_uM]
  exact kk hg (zOK_up hm ht h1 h2) (fr_st hK hf) hl (List.forall_mem_cons.mp (List.forall_mem_cons.mp hs).2).2
theorem Z_getZ {idx ci k a : Nat} {fin : Bool} {ki lo hi : Int} (hd : decode mt.2.1 pc = .ok (.getfield idx, 3)) (hp : pc + 3 = n) (hf0 : tl_FF mt.1 idx ci k .boolean fin) (hk : (k : Int) = ki) (hsh : F.1 a = (1, ci)) (ht : zT a ki = (lo, hi)) (kk : lo ≤ M a ki → M a ki ≤ hi → TZ G mt R cells slots K M0 J0 n L (vI (M a ki) :: st) F M J Z) : TZ G mt R cells slots K M0 J0 pc L (vR a :: st) F M J Z := by
  intro hg hm hf hl hs
  subst hk
  have h1 := hm a k
  rw [ht] at h1
  refine T_getZ hd hp hf0 (by rw [tS_S]; exact hsh) ?_
  rw [tS_M]
  exact kk h1.1 h1.2 hg hm hf hl (List.forall_mem_cons.mpr ⟨zOK_in hm _ _, (List.forall_mem_cons.mp hs).2⟩)
theorem Z_putZ {idx ci k a : Nat} {fin : Bool} {ki x : Int} (hd : decode mt.2.1 pc = .ok (.putfield idx, 3)) (hp : pc + 3 = n) (hf0 : tl_FF mt.1 idx ci k .boolean fin) (hk : (k : Int) = ki) (hfi : fin = true → mt.2.2.2.2 = "<init>") (hsh : F.1 a = (1, ci)) (ht : zT a ki = (0, 1)) (h1 : 0 ≤ x) (h2 : x ≤ 1) (hK : ¬ K a) (kk : TZ G mt R cells slots K M0 J0 n L st F (uz M a ki x) J Z) : TZ G mt R cells slots K M0 J0 pc L (vI x :: vR a :: st) F M J Z := by
  intro hg hm hf hl hs
  subst hk
  refine T_putZ hd hp hf0 hfi (by rw [tS_S]; exact hsh) (by rcases (show x = 0 ∨ x = 1 by omega) with h | h <;> rw [h] <;> first | exact Or.inl rfl | exact Or.inr rfl) ?_
  rw [tS_uM]
  exact kk hg (zOK_up hm ht h1 h2) (fr_st hK hf) hl (List.forall_mem_cons.mp (List.forall_mem_cons.mp hs).2).2
theorem Z_getA {idx ci k a r : Nat} {t : FieldType} {fin : Bool} (hd : decode mt.2.1 pc = .ok (.getfield idx, 3)) (hp : pc + 3 = n) (hf0 : tl_FF mt.1 idx ci k (.array t) fin) (hsh : F.1 a = (1, ci)) (hr : F.2.1 a k = some r) (kk : TZ G mt R cells slots K M0 J0 n L (vR r :: st) F M J Z) : TZ G mt R cells slots K M0 J0 pc L (vR a :: st) F M J Z := by
  intro hg hm hf hl hs
  exact T_getA hd hp hf0 (by rw [tS_S]; exact hsh) (by rw [tS_P, hr]; rfl) (kk hg hm hf hl (List.forall_mem_cons.mpr ⟨trivial, (List.forall_mem_cons.mp hs).2⟩))
theorem Z_getO {idx ci k a r : Nat} {t : String} {fin : Bool} (hd : decode mt.2.1 pc = .ok (.getfield idx, 3)) (hp : pc + 3 = n) (hf0 : tl_FF mt.1 idx ci k (.object t) fin) (hsh : F.1 a = (1, ci)) (hr : F.2.1 a k = some r) (kk : TZ G mt R cells slots K M0 J0 n L (vR r :: st) F M J Z) : TZ G mt R cells slots K M0 J0 pc L (vR a :: st) F M J Z := by
  intro hg hm hf hl hs
  exact T_getO hd hp hf0 (by rw [tS_S]; exact hsh) (by rw [tS_P, hr]; rfl) (kk hg hm hf hl (List.forall_mem_cons.mpr ⟨trivial, (List.forall_mem_cons.mp hs).2⟩))
theorem Z_iald {a N : Nat} {j lo hi : Int} (hd : decode mt.2.1 pc = .ok (.iaload, 1)) (hp : pc + 1 = n) (hsh : F.1 a = (2, N)) (ht : zT a j = (lo, hi)) (hN : N < 2147483648) (h0 : 0 ≤ j) (h1 : j < (N : Int)) (kk : lo ≤ M a j → M a j ≤ hi → TZ G mt R cells slots K M0 J0 n L (vI (M a j) :: st) F M J Z) : TZ G mt R cells slots K M0 J0 pc L (vI j :: vR a :: st) F M J Z := by
  intro hg hm hf hl hs
  have h5 := hm a j
  rw [ht] at h5
  refine T_iald (j := Int32.ofInt j) (i := j.toNat) hd hp (by rw [tS_S]; exact hsh) (i32n h0 (by omega)) (by omega) (by omega) ?_
  rw [tS_M, Int.toNat_of_nonneg h0]
  exact kk h5.1 h5.2 hg hm hf hl (List.forall_mem_cons.mpr ⟨zOK_in hm _ _, (List.forall_mem_cons.mp (List.forall_mem_cons.mp hs).2).2⟩)
theorem Z_zald {a N : Nat} {j lo hi : Int} (hd : decode mt.2.1 pc = .ok (.baload, 1)) (hp : pc + 1 = n) (hsh : F.1 a = (3, N)) (ht : zT a j = (lo, hi)) (hN : N < 2147483648) (h0 : 0 ≤ j) (h1 : j < (N : Int)) (kk : lo ≤ M a j → M a j ≤ hi → TZ G mt R cells slots K M0 J0 n L (vI (M a j) :: st) F M J Z) : TZ G mt R cells slots K M0 J0 pc L (vI j :: vR a :: st) F M J Z := by
  intro hg hm hf hl hs
  have h5 := hm a j
  rw [ht] at h5
  refine T_zald (j := Int32.ofInt j) (i := j.toNat) hd hp (by rw [tS_S]; exact hsh) (i32n h0 (by omega)) (by omega) (by omega) ?_
  rw [tS_M, Int.toNat_of_nonneg h0]
  exact kk h5.1 h5.2 hg hm hf hl (List.forall_mem_cons.mpr ⟨zOK_in hm _ _, (List.forall_mem_cons.mp (List.forall_mem_cons.mp hs).2).2⟩)
theorem Z_lald {a N : Nat} {j : Int} (hd : decode mt.2.1 pc = .ok (.laload, 1)) (hp : pc + 1 = n) (hsh : F.1 a = (4, N)) (hN : N < 2147483648) (h0 : 0 ≤ j) (h1 : j < (N : Int)) (kk : TZ G mt R cells slots K M0 J0 n L (vJ (J a j) :: st) F M J Z) : TZ G mt R cells slots K M0 J0 pc L (vI j :: vR a :: st) F M J Z := by
  intro hg hm hf hl hs
  refine T_lald (j := Int32.ofInt j) (i := j.toNat) hd hp (by rw [tS_S]; exact hsh) (i32n h0 (by omega)) (by omega) (by omega) ?_
  rw [tS_J, Int.toNat_of_nonneg h0]
  exact kk hg hm hf hl (List.forall_mem_cons.mpr ⟨trivial, (List.forall_mem_cons.mp (List.forall_mem_cons.mp hs).2).2⟩)
theorem Z_aald {a N r : Nat} {j : Int} (hd : decode mt.2.1 pc = .ok (.aaload, 1)) (hp : pc + 1 = n) (hsh : F.1 a = (5, N)) (hN : N < 2147483648) (h0 : 0 ≤ j) (h1 : j < (N : Int)) (hr : F.2.1 a j.toNat = some r) (kk : TZ G mt R cells slots K M0 J0 n L (vR r :: st) F M J Z) : TZ G mt R cells slots K M0 J0 pc L (vI j :: vR a :: st) F M J Z := by
  intro hg hm hf hl hs
  refine T_aald (j := Int32.ofInt j) (i := j.toNat) hd hp (by rw [tS_S]; exact hsh) (i32n h0 (by omega)) (by omega) (by omega) (by rw [tS_P, hr]; rfl) ?_
  exact kk hg hm hf hl (List.forall_mem_cons.mpr ⟨trivial, (List.forall_mem_cons.mp (List.forall_mem_cons.mp hs).2).2⟩)
theorem Z_ialdS1 {j : Int} (hd : decode mt.2.1 pc = .ok (.iaload, 1)) (hp : pc + 1 = n) (h0 : 0 ≤ j) (h1 : j < 11) (kk : 0 ≤ opF j → opF j ≤ 3 → TZ G mt R cells slots K M0 J0 n L (vI (opF j) :: st) F M J Z) : TZ G mt R cells slots K M0 J0 pc L (vI j :: vS 1 :: st) F M J Z := by
  intro hg hm hf hl hs
  have hq := hg.1
  refine T_ialdR (q := 1) (j := Int32.ofInt j) (i := j.toNat) hd hp (by decide) (i32n h0 (by omega)) (by omega) (by omega) ?_
  rw [hq.2 j.toNat (by omega), Int.toNat_of_nonneg h0]
  have h5 := opF_in j
  exact kk h5.1 h5.2 hg hm hf hl (List.forall_mem_cons.mpr ⟨(by show zI (opF j); omega), (List.forall_mem_cons.mp (List.forall_mem_cons.mp hs).2).2⟩)
theorem Z_ialdS2 {j : Int} (hd : decode mt.2.1 pc = .ok (.iaload, 1)) (hp : pc + 1 = n) (h0 : 0 ≤ j) (h1 : j < 11) (kk : 0 ≤ tabF j → tabF j ≤ 255 → TZ G mt R cells slots K M0 J0 n L (vI (tabF j) :: st) F M J Z) : TZ G mt R cells slots K M0 J0 pc L (vI j :: vS 2 :: st) F M J Z := by
  intro hg hm hf hl hs
  have hq := hg.2.1
  refine T_ialdR (q := 2) (j := Int32.ofInt j) (i := j.toNat) hd hp (by decide) (i32n h0 (by omega)) (by omega) (by omega) ?_
  rw [hq.2 j.toNat (by omega), Int.toNat_of_nonneg h0]
  have h5 := tabF_in j
  exact kk h5.1 h5.2 hg hm hf hl (List.forall_mem_cons.mpr ⟨(by show zI (tabF j); omega), (List.forall_mem_cons.mp (List.forall_mem_cons.mp hs).2).2⟩)
theorem Z_ialdS0 {j : Int} (hd : decode mt.2.1 pc = .ok (.iaload, 1)) (hp : pc + 1 = n) (h0 : 0 ≤ j) (h1 : j < ((gR G 0).2.1 : Int)) (kk : zI (scr G j) → TZ G mt R cells slots K M0 J0 n L (vI (scr G j) :: st) F M J Z) : TZ G mt R cells slots K M0 J0 pc L (vI j :: vS 0 :: st) F M J Z := by
  intro hg hm hf hl hs
  have hq := hg.2.2
  refine T_ialdR (q := 0) (j := Int32.ofInt j) (i := j.toNat) hd hp (by decide) (i32n h0 (by omega)) (by omega) (by omega) ?_
  have h1 := kk (zIof _) hg hm hf hl (List.forall_mem_cons.mpr ⟨zIof _, (List.forall_mem_cons.mp (List.forall_mem_cons.mp hs).2).2⟩)
  have h2 : cv G (vI (scr G j)) = .int ((gR G 0).2.2 j.toNat) := by simp only [cv, scr, Int32.ofInt_toInt]
  rw [List.map_cons, h2] at h1
  exact h1
theorem Z_alen {a N : Nat} (hd : decode mt.2.1 pc = .ok (.arraylength, 1)) (hp : pc + 1 = n) (hsh : F.1 a = (2, N)) (hN : N < 2147483648) (kk : TZ G mt R cells slots K M0 J0 n L (vI (N : Int) :: st) F M J Z) : TZ G mt R cells slots K M0 J0 pc L (vR a :: st) F M J Z := by
  intro hg hm hf hl hs
  refine T_alen hd hp (by rw [tS_S]; exact hsh) ?_
  have h1 := kk hg hm hf hl (List.forall_mem_cons.mpr ⟨(by show zI (N : Int); omega), (List.forall_mem_cons.mp hs).2⟩)
  have h2 : cv G (vI (N : Int)) = .int (nI N) := by
    show Value.int (Int32.ofInt (N : Int)) = _
    rw [i32n (by omega) (by omega)]
    rfl
  rw [List.map_cons, h2] at h1
  exact h1
theorem Z_alenS0 (hd : decode mt.2.1 pc = .ok (.arraylength, 1)) (hp : pc + 1 = n) (kk : TZ G mt R cells slots K M0 J0 n L (vI ((gR G 0).2.1 : Int) :: st) F M J Z) : TZ G mt R cells slots K M0 J0 pc L (vS 0 :: st) F M J Z := by
  intro hg hm hf hl hs
  have hN := hg.2.2
  refine T_alenR (q := 0) hd hp (by decide) ?_
  have h1 := kk hg hm hf hl (List.forall_mem_cons.mpr ⟨(by show zI ((gR G 0).2.1 : Int); omega), (List.forall_mem_cons.mp hs).2⟩)
  have h2 : cv G (vI ((gR G 0).2.1 : Int)) = .int (nI (gR G 0).2.1) := by
    show Value.int (Int32.ofInt ((gR G 0).2.1 : Int)) = _
    rw [i32n (by omega) (by omega)]
    rfl
  rw [List.map_cons, h2] at h1
  exact h1
theorem Z_gets {idx i : Nat} (hd : decode mt.2.1 pc = .ok (.getstatic idx, 3)) (hp : pc + 3 = n) (h1 : 1 ≤ i) (h2 : i < 3) (hw : Cond.fieldLink mt.1 idx (tl_sf i).1 (tl_sf i).2.1 (tl_sf i).2.2 ∈ tl_W) (kk : TZ G mt R cells slots K M0 J0 n L (vS i :: st) F M J Z) : TZ G mt R cells slots K M0 J0 pc L st F M J Z := fun hg hm hf hl hs => T_gets hd hp h1 h2 hw (kk hg hm hf hl (List.forall_mem_cons.mpr ⟨trivial, hs⟩))
theorem Z_getsN {idx i : Nat} (hd : decode mt.2.1 pc = .ok (.getstatic idx, 3)) (hp : pc + 3 = n) (h1 : 1 ≤ i) (h2 : i < 3) (hm0 : mt.1 = RX0) (hi : idx = tl_si i) (kk : TZ G mt R cells slots K M0 J0 n L (vS i :: st) F M J Z) : TZ G mt R cells slots K M0 J0 pc L st F M J Z := fun hg hm hf hl hs => T_getsN hd hp h1 h2 hm0 hi (kk hg hm hf hl (List.forall_mem_cons.mpr ⟨trivial, hs⟩))
theorem Z_iast {a N : Nat} {j x lo hi : Int} (hd : decode mt.2.1 pc = .ok (.iastore, 1)) (hp : pc + 1 = n) (hsh : F.1 a = (2, N)) (ht : zT a j = (lo, hi)) (hN : N < 2147483648) (h0 : 0 ≤ j) (h1 : j < (N : Int)) (h2 : lo ≤ x) (h3 : x ≤ hi) (hK : ¬ K a) (kk : TZ G mt R cells slots K M0 J0 n L st F (uz M a j x) J Z) : TZ G mt R cells slots K M0 J0 pc L (vI x :: vI j :: vR a :: st) F M J Z := by
  intro hg hm hf hl hs
  refine T_iast (j := Int32.ofInt j) (x := Int32.ofInt x) (i := j.toNat) hd hp (by rw [tS_S]; exact hsh) (i32n h0 (by omega)) (by omega) (by omega) ?_
  rw [tS_uM, Int.toNat_of_nonneg h0]
  exact kk hg (zOK_up hm ht h2 h3) (fr_st hK hf) hl (List.forall_mem_cons.mp (List.forall_mem_cons.mp (List.forall_mem_cons.mp hs).2).2).2
theorem Z_zast {a N : Nat} {j x : Int} (hd : decode mt.2.1 pc = .ok (.bastore, 1)) (hp : pc + 1 = n) (hsh : F.1 a = (3, N)) (ht : zT a j = (0, 1)) (hN : N < 2147483648) (h0 : 0 ≤ j) (h1 : j < (N : Int)) (h2 : 0 ≤ x) (h3 : x ≤ 1) (hK : ¬ K a) (kk : TZ G mt R cells slots K M0 J0 n L st F (uz M a j x) J Z) : TZ G mt R cells slots K M0 J0 pc L (vI x :: vI j :: vR a :: st) F M J Z := by
  intro hg hm hf hl hs
  refine T_zast (j := Int32.ofInt j) (x := Int32.ofInt x) (i := j.toNat) hd hp (by rw [tS_S]; exact hsh) (i32n h0 (by omega)) (by omega) (by omega) (by rcases (show x = 0 ∨ x = 1 by omega) with h | h <;> rw [h] <;> first | exact Or.inl rfl | exact Or.inr rfl) ?_
  rw [tS_uM, Int.toNat_of_nonneg h0]
  exact kk hg (zOK_up hm ht h2 h3) (fr_st hK hf) hl (List.forall_mem_cons.mp (List.forall_mem_cons.mp (List.forall_mem_cons.mp hs).2).2).2
theorem Z_last {a N : Nat} {j : Int} {x : Int64} (hd : decode mt.2.1 pc = .ok (.lastore, 1)) (hp : pc + 1 = n) (hsh : F.1 a = (4, N)) (hN : N < 2147483648) (h0 : 0 ≤ j) (h1 : j < (N : Int)) (hK : ¬ K a) (kk : TZ G mt R cells slots K M0 J0 n L st F M (uz J a j x) Z) : TZ G mt R cells slots K M0 J0 pc L (vJ x :: vI j :: vR a :: st) F M J Z := by
  intro hg hm hf hl hs
  refine T_last (j := Int32.ofInt j) (x := x) (i := j.toNat) hd hp (by rw [tS_S]; exact hsh) (i32n h0 (by omega)) (by omega) (by omega) ?_
  rw [tS_uJ, Int.toNat_of_nonneg h0]
  exact kk hg hm (fr_stJ hK hf) hl (List.forall_mem_cons.mp (List.forall_mem_cons.mp (List.forall_mem_cons.mp hs).2).2).2
theorem Z_tsw {x : Int} {d lo hi : Int} {offs : Array Int} {len td : Nat} (hd : decode mt.2.1 pc = .ok (.tableswitch d lo hi offs, len)) (hsz : offs.toList.length = (hi - lo + 1).toNat) (hpos : ∀ o ∈ offs.toList, 0 ≤ (pc : Int) + o) (ht : (pc : Int) + d = (td : Int)) (kin : zcases (fun o => ∀ t : Nat, (pc : Int) + o = (t : Int) → TZ G mt R cells slots K M0 J0 t L st F M J Z) x lo offs.toList) (kout : x < lo ∨ hi < x → TZ G mt R cells slots K M0 J0 td L st F M J Z) : TZ G mt R cells slots K M0 J0 pc L (vI x :: st) F M J Z := by
  by_cases h : lo ≤ x ∧ x ≤ hi
  · have hlt : (x - lo).toNat < offs.toList.length := by rw [hsz]; omega
    have ho : offs.toList[(x - lo).toNat]? = some (offs.toList[(x - lo).toNat]) := List.getElem?_eq_getElem hlt
    have hk := zcases_get kin h.1 ho
    intro hg hm hf hl hs
    have hx : (Int32.ofInt x).toInt = x := i32 (List.forall_mem_cons.mp hs).1
    have hn := hpos _ (List.mem_of_getElem? ho)
    exact Z_tin hd h.1 h.2 (by rw [← Array.getElem?_toList]; exact ho) (t := ((pc : Int) + offs.toList[(x - lo).toNat]).toNat) (by omega) (hk _ (by omega)) hg hm hf hl hs
  · exact Z_tout hd (by omega) ht (kout (by omega))
theorem Z_lsc {x d : Int} {ps : Array (Int × Int)} {len td : Nat} (hd : decode mt.2.1 pc = .ok (.lookupswitch d ps, len)) (hq : (ps.toList.zip (ps.toList.drop 1)).all (fun (a, next) => a.1 < next.1) = true) (hpos : ∀ p ∈ ps.toList, 0 ≤ (pc : Int) + p.2) (ht : (pc : Int) + d = (td : Int)) (kin : lcases (fun o => ∀ t : Nat, (pc : Int) + o = (t : Int) → TZ G mt R cells slots K M0 J0 t L st F M J Z) x ps.toList) (kout : (∀ p ∈ ps.toList, x ≠ p.1) → TZ G mt R cells slots K M0 J0 td L st F M J Z) : TZ G mt R cells slots K M0 J0 pc L (vI x :: st) F M J Z := by
  rcases lsw_cases d x ps.toList with ⟨p, h1, h2, h3⟩ | ⟨h1, h2⟩
  · have hn := hpos p h1
    exact Z_lsw hd hq h3 (t := ((pc : Int) + p.2).toNat) (by omega) (lcases_get kin h1 h2 _ (by omega))
  · exact Z_lsw hd hq h2 ht (kout h1)
end ZL
/-! contracts of methods that make no object -/
def zPost (G : tl_G) (K : Nat → Prop) (F : zF) (M : zM) (J : zJ) (Q : Option zV → zM → zJ → Prop) : Option Value → tl_S → Prop := fun v σ' => ∃ v' M' J', v = Option.map (cv G) v' ∧ σ' = tS G F M' J' ∧ (∀ u, v' = some u → vok u) ∧ zOK M' ∧ (∀ a, K a → M' a = M a ∧ J' a = J a) ∧ Q v' M' J'
def ZN (G : tl_G) (y : MethodName) (mt : tl_M) (d : Nat) (K : Nat → Prop) (av : List zV) (F : zF) (M : zM) (J : zJ) (Q : Option zV → zM → zJ → Prop) : Prop := gZ G → zOK M → (∀ v ∈ av, vok v) → CT G y mt d 0 0 (av.map (cv G)) (tS G F M J) (zPost G K F M J Q)
def qI (Q : Int → zM → zJ → Prop) : Option zV → zM → zJ → Prop := fun v M' J' => ∃ x, v = some (vI x) ∧ Q x M' J'
def qL (Q : Int64 → zM → zJ → Prop) : Option zV → zM → zJ → Prop := fun v M' J' => ∃ x, v = some (vJ x) ∧ Q x M' J'
def qV (Q : zM → zJ → Prop) : Option zV → zM → zJ → Prop := fun v M' J' => v = none ∧ Q M' J'
section ZC
variable {G : tl_G} {mt : tl_M} {R : Room} {cells slots pc n : Nat} {K : Nat → Prop} {M0 : zM} {J0 : zJ} {L L' : List (Option zV)} {st : List zV} {F : zF} {M : zM} {J : zJ} {Z : tl_Z}
theorem ZN_of {y : MethodName} {d : Nat} {K : Nat → Prop} {av : List zV} {Q : Option zV → zM → zJ → Prop} (hpl : plainName y.cls = true) (hy1 : y.cls = mt.1) (hy2 : y.name = mt.2.2.2.2) (hle : (lg_sl (av.map (cv G))).length ≤ mt.2.2.1) (hL : zargs av ++ List.replicate (mt.2.2.1 - (zargs av).length) none = L) (h : (∀ v ∈ av, vok v) → TZ G mt (tl_rm d 0 0) 0 0 K M J 0 L [] F M J (ZM G (zPost G K F M J Q) 0 0)) : ZN G y mt d K av F M J Q := by
  intro hg hm ha
  refine CT_of hpl hy1 hy2 hle ?_
  have h1 := h ha hg hm (fun a _ => ⟨rfl, rfl⟩) (fun v hv => ?_) (fun v hv => by cases hv)
  · rw [zargs_map, List.length_map]
    rw [← hL, List.map_append, List.map_replicate] at h1
    exact h1
  · rw [← hL] at hv
    rcases List.mem_append.mp hv with q | q
    · exact ha v (zargs_mem av v q)
    · have := List.eq_of_mem_replicate q
      cases this
theorem Z_iret {v : Int} {K : Nat → Prop} {M0 : zM} {J0 : zJ} {Q : Int → zM → zJ → Prop} (hd : decode mt.2.1 pc = .ok (.ireturn, 1)) (hr : mt.2.2.2.1 = some .int) (hQ : Q v M J) : TZ G mt R cells slots K M0 J0 pc L [vI v] F M J (ZM G (zPost G K F M0 J0 (qI Q)) cells slots) := by
  intro hg hm hf hl hs
  exact T_iret hd hr ⟨some (vI v), M, J, rfl, rfl, fun u hu => by cases hu; exact hs _ List.mem_cons_self, hm, hf, v, rfl, hQ⟩
theorem Z_zret {v : Int} {K : Nat → Prop} {M0 : zM} {J0 : zJ} {Q : Int → zM → zJ → Prop} (hd : decode mt.2.1 pc = .ok (.ireturn, 1)) (hr : mt.2.2.2.1 = some .boolean) (h0 : 0 ≤ v) (h1 : v ≤ 1) (hQ : Q v M J) : TZ G mt R cells slots K M0 J0 pc L [vI v] F M J (ZM G (zPost G K F M0 J0 (qI Q)) cells slots) := by
  intro hg hm hf hl hs
  exact T_zret hd hr (by rcases (show v = 0 ∨ v = 1 by omega) with h | h <;> rw [h] <;> first | exact Or.inl rfl | exact Or.inr rfl) ⟨some (vI v), M, J, rfl, rfl, fun u hu => by cases hu; exact hs _ List.mem_cons_self, hm, hf, v, rfl, hQ⟩
theorem Z_lret {v : Int64} {K : Nat → Prop} {M0 : zM} {J0 : zJ} {Q : Int64 → zM → zJ → Prop} (hd : decode mt.2.1 pc = .ok (.lreturn, 1)) (hr : mt.2.2.2.1 = some .long) (hQ : Q v M J) : TZ G mt R cells slots K M0 J0 pc L [vJ v] F M J (ZM G (zPost G K F M0 J0 (qL Q)) cells slots) := by
  intro hg hm hf hl hs
  exact T_lret hd hr ⟨some (vJ v), M, J, rfl, rfl, fun u hu => by cases hu; trivial, hm, hf, v, rfl, hQ⟩
theorem Z_vret {K : Nat → Prop} {M0 : zM} {J0 : zJ} {Q : zM → zJ → Prop} (hd : decode mt.2.1 pc = .ok (.return_, 1)) (hr : mt.2.2.2.1 = none) (hQ : Q M J) : TZ G mt R cells slots K M0 J0 pc L [] F M J (ZM G (zPost G K F M0 J0 (qV Q)) cells slots) := by
  intro hg hm hf hl hs
  exact T_vret hd hr ⟨none, M, J, rfl, rfl, (fun u hu => by cases hu), hm, hf, rfl, hQ⟩
theorem fr_after {K' : Nat → Prop} {M' : zM} {J' : zJ} (hKK : ∀ a, K a → K' a) (hf : ∀ a, K a → M a = M0 a ∧ J a = J0 a) (h : ∀ a, K' a → M' a = M a ∧ J' a = J a) : ∀ a, K a → M' a = M0 a ∧ J' a = J0 a := fun a ha => ⟨((h a (hKK a ha)).1).trans (hf a ha).1, ((h a (hKK a ha)).2).trans (hf a ha).2⟩
theorem zmap_st {As rest : List zV} {v : zV} : (As.reverse ++ v :: rest).map (cv G) = (As.map (cv G)).reverse ++ cv G v :: rest.map (cv G) := by rw [List.map_append, List.map_reverse, List.map_cons]
theorem zmap_st' {As rest : List zV} : (As.reverse ++ rest).map (cv G) = (As.map (cv G)).reverse ++ rest.map (cv G) := by rw [List.map_append, List.map_reverse]
theorem zok_args {As rest : List zV} (h : ∀ v ∈ As.reverse ++ rest, vok v) : (∀ v ∈ As, vok v) ∧ ∀ v ∈ rest, vok v := ⟨fun v hv => h v (List.mem_append_left _ (List.mem_reverse.mpr hv)), fun v hv => h v (List.mem_append_right _ hv)⟩
theorem Z_callVi {idx d ci b k : Nat} {y : MethodName} {mt' : tl_M} {K' : Nat → Prop} {stk : List zV} {Q' : Int → zM → zJ → Prop} (As rest : List zV) (hd : decode mt.2.1 pc = .ok (.invokevirtual idx, 3)) (hp : pc + 3 = n) (hw : tl_VW mt.1 idx y mt' k ci) (hk : As.length = k) (hst : stk = As.reverse ++ vR b :: rest) (hsh : F.1 b = (1, ci)) (hcat : ((rest.map (cv G)).map fun v => v.category).sum ≤ 8) (hR : d + 1 ≤ R.frames ∧ 8 + (mt'.2.2.1 + 11) + 40 * d ≤ R.locals ∧ cells + 0 ≤ R.cells ∧ slots + 0 ≤ R.slots) (hKK : ∀ a, K a → K' a) (hc : ZN G y mt' d K' (vR b :: As) F M J (qI Q')) (kk : ∀ (x : Int) (M' : zM) (J' : zJ), zI x → (∀ a, K' a → M' a = M a ∧ J' a = J a) → Q' x M' J' → TZ G mt R cells slots K M0 J0 n L (vI x :: rest) F M' J' Z) : TZ G mt R cells slots K M0 J0 pc L stk F M J Z := by
  intro hg hm hf hl hs
  subst hst
  have h1 := zok_args (rest := vR b :: rest) hs
  have h2 := (List.forall_mem_cons.mp h1.2).2
  refine T_callV (As := As.map (cv G)) (rest := rest.map (cv G)) hd hp hw (by rw [List.length_map]; exact hk) zmap_st (by rw [tS_S]; exact hsh) hcat hR (hc hg hm (List.forall_mem_cons.mpr ⟨trivial, h1.1⟩)) ?_
  rintro v σ' ⟨v', M', J', rfl, rfl, hv, hm', hf', x, rfl, hQ⟩
  exact kk x M' J' (hv _ rfl) hf' hQ hg hm' (fr_after hKK hf hf') hl (List.forall_mem_cons.mpr ⟨hv _ rfl, h2⟩)
theorem Z_callSi {idx d k : Nat} {y : MethodName} {mt' : tl_M} {K' : Nat → Prop} {stk : List zV} {Q' : Int → zM → zJ → Prop} (As rest : List zV) (hd : decode mt.2.1 pc = .ok (.invokestatic idx, 3)) (hp : pc + 3 = n) (hw : tl_CW mt.1 idx y mt' k ∧ Cond.static y ∈ tl_W) (hk : As.length = k) (hst : stk = As.reverse ++ rest) (hcat : ((rest.map (cv G)).map fun v => v.category).sum ≤ 8) (hR : d + 1 ≤ R.frames ∧ 8 + (mt'.2.2.1 + 11) + 40 * d ≤ R.locals ∧ cells + 0 ≤ R.cells ∧ slots + 0 ≤ R.slots) (hKK : ∀ a, K a → K' a) (hc : ZN G y mt' d K' As F M J (qI Q')) (kk : ∀ (x : Int) (M' : zM) (J' : zJ), zI x → (∀ a, K' a → M' a = M a ∧ J' a = J a) → Q' x M' J' → TZ G mt R cells slots K M0 J0 n L (vI x :: rest) F M' J' Z) : TZ G mt R cells slots K M0 J0 pc L stk F M J Z := by
  intro hg hm hf hl hs
  subst hst
  have h1 := zok_args hs
  have h2 := h1.2
  refine T_callS (As := As.map (cv G)) (rest := rest.map (cv G)) hd hp hw (by rw [List.length_map]; exact hk) zmap_st' hcat hR (hc hg hm h1.1) ?_
  rintro v σ' ⟨v', M', J', rfl, rfl, hv, hm', hf', x, rfl, hQ⟩
  exact kk x M' J' (hv _ rfl) hf' hQ hg hm' (fr_after hKK hf hf') hl (List.forall_mem_cons.mpr ⟨hv _ rfl, h2⟩)
theorem Z_callVl {idx d ci b k : Nat} {y : MethodName} {mt' : tl_M} {K' : Nat → Prop} {stk : List zV} {Q' : Int64 → zM → zJ → Prop} (As rest : List zV) (hd : decode mt.2.1 pc = .ok (.invokevirtual idx, 3)) (hp : pc + 3 = n) (hw : tl_VW mt.1 idx y mt' k ci) (hk : As.length = k) (hst : stk = As.reverse ++ vR b :: rest) (hsh : F.1 b = (1, ci)) (hcat : ((rest.map (cv G)).map fun v => v.category).sum ≤ 8) (hR : d + 1 ≤ R.frames ∧ 8 + (mt'.2.2.1 + 11) + 40 * d ≤ R.locals ∧ cells + 0 ≤ R.cells ∧ slots + 0 ≤ R.slots) (hKK : ∀ a, K a → K' a) (hc : ZN G y mt' d K' (vR b :: As) F M J (qL Q')) (kk : ∀ (x : Int64) (M' : zM) (J' : zJ), (∀ a, K' a → M' a = M a ∧ J' a = J a) → Q' x M' J' → TZ G mt R cells slots K M0 J0 n L (vJ x :: rest) F M' J' Z) : TZ G mt R cells slots K M0 J0 pc L stk F M J Z := by
  intro hg hm hf hl hs
  subst hst
  have h1 := zok_args (rest := vR b :: rest) hs
  have h2 := (List.forall_mem_cons.mp h1.2).2
  refine T_callV (As := As.map (cv G)) (rest := rest.map (cv G)) hd hp hw (by rw [List.length_map]; exact hk) zmap_st (by rw [tS_S]; exact hsh) hcat hR (hc hg hm (List.forall_mem_cons.mpr ⟨trivial, h1.1⟩)) ?_
  rintro v σ' ⟨v', M', J', rfl, rfl, hv, hm', hf', x, rfl, hQ⟩
  exact kk x M' J' hf' hQ hg hm' (fr_after hKK hf hf') hl (List.forall_mem_cons.mpr ⟨trivial, h2⟩)
theorem Z_callSl {idx d k : Nat} {y : MethodName} {mt' : tl_M} {K' : Nat → Prop} {stk : List zV} {Q' : Int64 → zM → zJ → Prop} (As rest : List zV) (hd : decode mt.2.1 pc = .ok (.invokestatic idx, 3)) (hp : pc + 3 = n) (hw : tl_CW mt.1 idx y mt' k ∧ Cond.static y ∈ tl_W) (hk : As.length = k) (hst : stk = As.reverse ++ rest) (hcat : ((rest.map (cv G)).map fun v => v.category).sum ≤ 8) (hR : d + 1 ≤ R.frames ∧ 8 + (mt'.2.2.1 + 11) + 40 * d ≤ R.locals ∧ cells + 0 ≤ R.cells ∧ slots + 0 ≤ R.slots) (hKK : ∀ a, K a → K' a) (hc : ZN G y mt' d K' As F M J (qL Q')) (kk : ∀ (x : Int64) (M' : zM) (J' : zJ), (∀ a, K' a → M' a = M a ∧ J' a = J a) → Q' x M' J' → TZ G mt R cells slots K M0 J0 n L (vJ x :: rest) F M' J' Z) : TZ G mt R cells slots K M0 J0 pc L stk F M J Z := by
  intro hg hm hf hl hs
  subst hst
  have h1 := zok_args hs
  have h2 := h1.2
  refine T_callS (As := As.map (cv G)) (rest := rest.map (cv G)) hd hp hw (by rw [List.length_map]; exact hk) zmap_st' hcat hR (hc hg hm h1.1) ?_
  rintro v σ' ⟨v', M', J', rfl, rfl, hv, hm', hf', x, rfl, hQ⟩
  exact kk x M' J' hf' hQ hg hm' (fr_after hKK hf hf') hl (List.forall_mem_cons.mpr ⟨trivial, h2⟩)
theorem Z_callVv {idx d ci b k : Nat} {y : MethodName} {mt' : tl_M} {K' : Nat → Prop} {stk : List zV} {Q' : zM → zJ → Prop} (As rest : List zV) (hd : decode mt.2.1 pc = .ok (.invokevirtual idx, 3)) (hp : pc + 3 = n) (hw : tl_VW mt.1 idx y mt' k ci) (hk : As.length = k) (hst : stk = As.reverse ++ vR b :: rest) (hsh : F.1 b = (1, ci)) (hcat : ((rest.map (cv G)).map fun v => v.category).sum ≤ 8) (hR : d + 1 ≤ R.frames ∧ 8 + (mt'.2.2.1 + 11) + 40 * d ≤ R.locals ∧ cells + 0 ≤ R.cells ∧ slots + 0 ≤ R.slots) (hKK : ∀ a, K a → K' a) (hc : ZN G y mt' d K' (vR b :: As) F M J (qV Q')) (kk : ∀ (M' : zM) (J' : zJ), (∀ a, K' a → M' a = M a ∧ J' a = J a) → Q' M' J' → TZ G mt R cells slots K M0 J0 n L rest F M' J' Z) : TZ G mt R cells slots K M0 J0 pc L stk F M J Z := by
  intro hg hm hf hl hs
  subst hst
  have h1 := zok_args (rest := vR b :: rest) hs
  have h2 := (List.forall_mem_cons.mp h1.2).2
  refine T_callV (As := As.map (cv G)) (rest := rest.map (cv G)) hd hp hw (by rw [List.length_map]; exact hk) zmap_st (by rw [tS_S]; exact hsh) hcat hR (hc hg hm (List.forall_mem_cons.mpr ⟨trivial, h1.1⟩)) ?_
  rintro v σ' ⟨v', M', J', rfl, rfl, hv, hm', hf', rfl, hQ⟩
  exact kk M' J' hf' hQ hg hm' (fr_after hKK hf hf') hl h2
theorem Z_callSv {idx d k : Nat} {y : MethodName} {mt' : tl_M} {K' : Nat → Prop} {stk : List zV} {Q' : zM → zJ → Prop} (As rest : List zV) (hd : decode mt.2.1 pc = .ok (.invokestatic idx, 3)) (hp : pc + 3 = n) (hw : tl_CW mt.1 idx y mt' k ∧ Cond.static y ∈ tl_W) (hk : As.length = k) (hst : stk = As.reverse ++ rest) (hcat : ((rest.map (cv G)).map fun v => v.category).sum ≤ 8) (hR : d + 1 ≤ R.frames ∧ 8 + (mt'.2.2.1 + 11) + 40 * d ≤ R.locals ∧ cells + 0 ≤ R.cells ∧ slots + 0 ≤ R.slots) (hKK : ∀ a, K a → K' a) (hc : ZN G y mt' d K' As F M J (qV Q')) (kk : ∀ (M' : zM) (J' : zJ), (∀ a, K' a → M' a = M a ∧ J' a = J a) → Q' M' J' → TZ G mt R cells slots K M0 J0 n L rest F M' J' Z) : TZ G mt R cells slots K M0 J0 pc L stk F M J Z := by
  intro hg hm hf hl hs
  subst hst
  have h1 := zok_args hs
  have h2 := h1.2
  refine T_callS (As := As.map (cv G)) (rest := rest.map (cv G)) hd hp hw (by rw [List.length_map]; exact hk) zmap_st' hcat hR (hc hg hm h1.1) ?_
  rintro v σ' ⟨v', M', J', rfl, rfl, hv, hm', hf', rfl, hQ⟩
  exact kk M' J' hf' hQ hg hm' (fr_after hKK hf hf') hl h2
end ZC
end
