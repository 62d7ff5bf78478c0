section
-- ===== PART A: goes FIRST, ahead of the names: the tables' words, and 'selects' of the private methods out of them =====
/-- a private method of a class that the tables say can be made, by its rows of tables_1 -/
def lw_okq (q : MethodName × Nat) : Prop := (q.1.cls ≠ "java/lang/invoke/MethodHandle" ∧ q.1.cls ≠ "java/lang/invoke/VarHandle") ∧ Cond.instantiable q.1.cls q.2 ∈ tables_1 ∧ Cond.privateMethod q.1 ∈ tables_1 ∧ Cond.instanceMethod q.1 ∈ tables_1
theorem lw_p0 : lw_okq (⟨"DiagramBench$Pool", "enter", "(I)V"⟩, 9) := ⟨⟨by decide +kernel, by decide +kernel⟩, List.mem_of_getElem? (i := 36) (by decide +kernel), List.mem_of_getElem? (i := 49) (by decide +kernel), List.mem_of_getElem? (i := 50) (by decide +kernel)⟩
theorem lw_p1 : lw_okq (⟨"DiagramBench$Net", "gateValue", "(II)I"⟩, 6) := ⟨⟨by decide +kernel, by decide +kernel⟩, List.mem_of_getElem? (i := 80) (by decide +kernel), List.mem_of_getElem? (i := 196) (by decide +kernel), List.mem_of_getElem? (i := 197) (by decide +kernel)⟩
theorem lw_p2 : lw_okq (⟨"DiagramBench", "heldCount", "()I"⟩, 11) := ⟨⟨by decide +kernel, by decide +kernel⟩, List.mem_of_getElem? (i := 9) (by decide +kernel), List.mem_of_getElem? (i := 210) (by decide +kernel), List.mem_of_getElem? (i := 211) (by decide +kernel)⟩
theorem lw_p3 : lw_okq (⟨"DiagramBench$Net", "goInto", "(ILDiagramBench$Order;I)V"⟩, 6) := ⟨⟨by decide +kernel, by decide +kernel⟩, List.mem_of_getElem? (i := 80) (by decide +kernel), List.mem_of_getElem? (i := 224) (by decide +kernel), List.mem_of_getElem? (i := 225) (by decide +kernel)⟩
theorem lw_p4 : lw_okq (⟨"DiagramBench$Order", "put", "(II)V"⟩, 3) := ⟨⟨by decide +kernel, by decide +kernel⟩, List.mem_of_getElem? (i := 19) (by decide +kernel), List.mem_of_getElem? (i := 232) (by decide +kernel), List.mem_of_getElem? (i := 233) (by decide +kernel)⟩
theorem lw_p5 : lw_okq (⟨"DiagramBench", "collect", "()V"⟩, 11) := ⟨⟨by decide +kernel, by decide +kernel⟩, List.mem_of_getElem? (i := 9) (by decide +kernel), List.mem_of_getElem? (i := 265) (by decide +kernel), List.mem_of_getElem? (i := 266) (by decide +kernel)⟩
theorem lw_p6 : lw_okq (⟨"DiagramBench$Pool", "markWith", "(III)V"⟩, 9) := ⟨⟨by decide +kernel, by decide +kernel⟩, List.mem_of_getElem? (i := 36) (by decide +kernel), List.mem_of_getElem? (i := 277) (by decide +kernel), List.mem_of_getElem? (i := 278) (by decide +kernel)⟩
theorem lw_p7 : lw_okq (⟨"DiagramBench", "beginSteps", "()V"⟩, 11) := ⟨⟨by decide +kernel, by decide +kernel⟩, List.mem_of_getElem? (i := 9) (by decide +kernel), List.mem_of_getElem? (i := 297) (by decide +kernel), List.mem_of_getElem? (i := 298) (by decide +kernel)⟩
theorem lw_p8 : lw_okq (⟨"DiagramBench", "building", "(LDiagramBench$Net;I)I"⟩, 11) := ⟨⟨by decide +kernel, by decide +kernel⟩, List.mem_of_getElem? (i := 9) (by decide +kernel), List.mem_of_getElem? (i := 301) (by decide +kernel), List.mem_of_getElem? (i := 302) (by decide +kernel)⟩
theorem lw_p9 : lw_okq (⟨"DiagramBench$Net", "noteNeedsOf", "(I[I)V"⟩, 6) := ⟨⟨by decide +kernel, by decide +kernel⟩, List.mem_of_getElem? (i := 80) (by decide +kernel), List.mem_of_getElem? (i := 309) (by decide +kernel), List.mem_of_getElem? (i := 310) (by decide +kernel)⟩
theorem lw_p10 : lw_okq (⟨"DiagramBench", "variableStep", "(I)I"⟩, 11) := ⟨⟨by decide +kernel, by decide +kernel⟩, List.mem_of_getElem? (i := 9) (by decide +kernel), List.mem_of_getElem? (i := 318) (by decide +kernel), List.mem_of_getElem? (i := 319) (by decide +kernel)⟩
theorem lw_p11 : lw_okq (⟨"DiagramBench$Pool", "nodeFor", "(III)I"⟩, 9) := ⟨⟨by decide +kernel, by decide +kernel⟩, List.mem_of_getElem? (i := 36) (by decide +kernel), List.mem_of_getElem? (i := 330) (by decide +kernel), List.mem_of_getElem? (i := 331) (by decide +kernel)⟩
theorem lw_p12 : lw_okq (⟨"DiagramBench", "measured", "(I)I"⟩, 11) := ⟨⟨by decide +kernel, by decide +kernel⟩, List.mem_of_getElem? (i := 9) (by decide +kernel), List.mem_of_getElem? (i := 334) (by decide +kernel), List.mem_of_getElem? (i := 335) (by decide +kernel)⟩
theorem lw_p13 : lw_okq (⟨"DiagramBench", "madeFor", "(LDiagramBench$Net;II)I"⟩, 11) := ⟨⟨by decide +kernel, by decide +kernel⟩, List.mem_of_getElem? (i := 9) (by decide +kernel), List.mem_of_getElem? (i := 345) (by decide +kernel), List.mem_of_getElem? (i := 346) (by decide +kernel)⟩
theorem lw_p14 : lw_okq (⟨"DiagramBench", "kindStep", "(IIII)I"⟩, 11) := ⟨⟨by decide +kernel, by decide +kernel⟩, List.mem_of_getElem? (i := 9) (by decide +kernel), List.mem_of_getElem? (i := 350) (by decide +kernel), List.mem_of_getElem? (i := 351) (by decide +kernel)⟩
theorem lw_p15 : lw_okq (⟨"DiagramBench$Pool", "makeFrom", "(IIIII)I"⟩, 9) := ⟨⟨by decide +kernel, by decide +kernel⟩, List.mem_of_getElem? (i := 36) (by decide +kernel), List.mem_of_getElem? (i := 359) (by decide +kernel), List.mem_of_getElem? (i := 360) (by decide +kernel)⟩
def lw_privs_1 : List (MethodName × Nat) := [(⟨"DiagramBench$Pool", "enter", "(I)V"⟩, 9), (⟨"DiagramBench$Net", "gateValue", "(II)I"⟩, 6), (⟨"DiagramBench", "heldCount", "()I"⟩, 11), (⟨"DiagramBench$Net", "goInto", "(ILDiagramBench$Order;I)V"⟩, 6), (⟨"DiagramBench$Order", "put", "(II)V"⟩, 3), (⟨"DiagramBench", "collect", "()V"⟩, 11), (⟨"DiagramBench$Pool", "markWith", "(III)V"⟩, 9), (⟨"DiagramBench", "beginSteps", "()V"⟩, 11), (⟨"DiagramBench", "building", "(LDiagramBench$Net;I)I"⟩, 11), (⟨"DiagramBench$Net", "noteNeedsOf", "(I[I)V"⟩, 6), (⟨"DiagramBench", "variableStep", "(I)I"⟩, 11), (⟨"DiagramBench$Pool", "nodeFor", "(III)I"⟩, 9), (⟨"DiagramBench", "measured", "(I)I"⟩, 11), (⟨"DiagramBench", "madeFor", "(LDiagramBench$Net;II)I"⟩, 11), (⟨"DiagramBench", "kindStep", "(IIII)I"⟩, 11), (⟨"DiagramBench$Pool", "makeFrom", "(IIIII)I"⟩, 9)]
theorem lw_r1 : ∀ q ∈ lw_privs_1, lw_okq q := List.forall_mem_cons.mpr ⟨lw_p0, List.forall_mem_cons.mpr ⟨lw_p1, List.forall_mem_cons.mpr ⟨lw_p2, List.forall_mem_cons.mpr ⟨lw_p3, List.forall_mem_cons.mpr ⟨lw_p4, List.forall_mem_cons.mpr ⟨lw_p5, List.forall_mem_cons.mpr ⟨lw_p6, List.forall_mem_cons.mpr ⟨lw_p7, List.forall_mem_cons.mpr ⟨lw_p8, List.forall_mem_cons.mpr ⟨lw_p9, List.forall_mem_cons.mpr ⟨lw_p10, List.forall_mem_cons.mpr ⟨lw_p11, List.forall_mem_cons.mpr ⟨lw_p12, List.forall_mem_cons.mpr ⟨lw_p13, List.forall_mem_cons.mpr ⟨lw_p14, List.forall_mem_cons.mpr ⟨lw_p15, fun _ h => absurd h List.not_mem_nil⟩⟩⟩⟩⟩⟩⟩⟩⟩⟩⟩⟩⟩⟩⟩⟩
theorem lw_p16 : lw_okq (⟨"DiagramBench$Pool", "lowAt", "(II)I"⟩, 9) := ⟨⟨by decide +kernel, by decide +kernel⟩, List.mem_of_getElem? (i := 36) (by decide +kernel), List.mem_of_getElem? (i := 369) (by decide +kernel), List.mem_of_getElem? (i := 370) (by decide +kernel)⟩
theorem lw_p17 : lw_okq (⟨"DiagramBench$Pool", "highAt", "(II)I"⟩, 9) := ⟨⟨by decide +kernel, by decide +kernel⟩, List.mem_of_getElem? (i := 36) (by decide +kernel), List.mem_of_getElem? (i := 373) (by decide +kernel), List.mem_of_getElem? (i := 374) (by decide +kernel)⟩
theorem lw_p18 : lw_okq (⟨"DiagramBench", "letGoBehind", "(LDiagramBench$Net;I)V"⟩, 11) := ⟨⟨by decide +kernel, by decide +kernel⟩, List.mem_of_getElem? (i := 9) (by decide +kernel), List.mem_of_getElem? (i := 377) (by decide +kernel), List.mem_of_getElem? (i := 378) (by decide +kernel)⟩
theorem lw_p19 : lw_okq (⟨"DiagramBench", "keep", "(I)I"⟩, 11) := ⟨⟨by decide +kernel, by decide +kernel⟩, List.mem_of_getElem? (i := 9) (by decide +kernel), List.mem_of_getElem? (i := 381) (by decide +kernel), List.mem_of_getElem? (i := 382) (by decide +kernel)⟩
theorem lw_p20 : lw_okq (⟨"DiagramBench", "give", "(II)I"⟩, 11) := ⟨⟨by decide +kernel, by decide +kernel⟩, List.mem_of_getElem? (i := 9) (by decide +kernel), List.mem_of_getElem? (i := 385) (by decide +kernel), List.mem_of_getElem? (i := 386) (by decide +kernel)⟩
theorem lw_p21 : lw_okq (⟨"DiagramBench", "endSteps", "()V"⟩, 11) := ⟨⟨by decide +kernel, by decide +kernel⟩, List.mem_of_getElem? (i := 9) (by decide +kernel), List.mem_of_getElem? (i := 389) (by decide +kernel), List.mem_of_getElem? (i := 390) (by decide +kernel)⟩
theorem lw_p22 : lw_okq (⟨"DiagramBench$Pool", "markedWith", "(I)I"⟩, 9) := ⟨⟨by decide +kernel, by decide +kernel⟩, List.mem_of_getElem? (i := 36) (by decide +kernel), List.mem_of_getElem? (i := 399) (by decide +kernel), List.mem_of_getElem? (i := 400) (by decide +kernel)⟩
theorem lw_p23 : lw_okq (⟨"DiagramBench", "hasFunction", "(I)Z"⟩, 11) := ⟨⟨by decide +kernel, by decide +kernel⟩, List.mem_of_getElem? (i := 9) (by decide +kernel), List.mem_of_getElem? (i := 411) (by decide +kernel), List.mem_of_getElem? (i := 412) (by decide +kernel)⟩
theorem lw_p24 : lw_okq (⟨"DiagramBench", "fixStep", "(IIZ)I"⟩, 11) := ⟨⟨by decide +kernel, by decide +kernel⟩, List.mem_of_getElem? (i := 9) (by decide +kernel), List.mem_of_getElem? (i := 423) (by decide +kernel), List.mem_of_getElem? (i := 424) (by decide +kernel)⟩
theorem lw_p25 : lw_okq (⟨"DiagramBench$Pool", "fixFrom", "(IIZI)I"⟩, 9) := ⟨⟨by decide +kernel, by decide +kernel⟩, List.mem_of_getElem? (i := 36) (by decide +kernel), List.mem_of_getElem? (i := 431) (by decide +kernel), List.mem_of_getElem? (i := 432) (by decide +kernel)⟩
theorem lw_p26 : lw_okq (⟨"DiagramBench$Pool", "pathsFrom", "(III)I"⟩, 9) := ⟨⟨by decide +kernel, by decide +kernel⟩, List.mem_of_getElem? (i := 36) (by decide +kernel), List.mem_of_getElem? (i := 521) (by decide +kernel), List.mem_of_getElem? (i := 522) (by decide +kernel)⟩
theorem lw_p27 : lw_okq (⟨"DiagramBench", "notePart", "(II)V"⟩, 11) := ⟨⟨by decide +kernel, by decide +kernel⟩, List.mem_of_getElem? (i := 9) (by decide +kernel), List.mem_of_getElem? (i := 533) (by decide +kernel), List.mem_of_getElem? (i := 534) (by decide +kernel)⟩
theorem lw_p28 : lw_okq (⟨"DiagramBenchModel", "isGate", "(II)Z"⟩, 35) := ⟨⟨by decide +kernel, by decide +kernel⟩, List.mem_of_getElem? (i := 549) (by decide +kernel), List.mem_of_getElem? (i := 682) (by decide +kernel), List.mem_of_getElem? (i := 683) (by decide +kernel)⟩
theorem lw_p29 : lw_okq (⟨"DiagramBenchModel", "isOutput", "(II)Z"⟩, 35) := ⟨⟨by decide +kernel, by decide +kernel⟩, List.mem_of_getElem? (i := 549) (by decide +kernel), List.mem_of_getElem? (i := 698) (by decide +kernel), List.mem_of_getElem? (i := 699) (by decide +kernel)⟩
theorem lw_p30 : lw_okq (⟨"DiagramBenchModel", "isEmpty", "()Z"⟩, 35) := ⟨⟨by decide +kernel, by decide +kernel⟩, List.mem_of_getElem? (i := 549) (by decide +kernel), List.mem_of_getElem? (i := 709) (by decide +kernel), List.mem_of_getElem? (i := 710) (by decide +kernel)⟩
theorem lw_p31 : lw_okq (⟨"DiagramBenchModel", "go", "(II)V"⟩, 35) := ⟨⟨by decide +kernel, by decide +kernel⟩, List.mem_of_getElem? (i := 549) (by decide +kernel), List.mem_of_getElem? (i := 713) (by decide +kernel), List.mem_of_getElem? (i := 714) (by decide +kernel)⟩
def lw_privs_2 : List (MethodName × Nat) := [(⟨"DiagramBench$Pool", "lowAt", "(II)I"⟩, 9), (⟨"DiagramBench$Pool", "highAt", "(II)I"⟩, 9), (⟨"DiagramBench", "letGoBehind", "(LDiagramBench$Net;I)V"⟩, 11), (⟨"DiagramBench", "keep", "(I)I"⟩, 11), (⟨"DiagramBench", "give", "(II)I"⟩, 11), (⟨"DiagramBench", "endSteps", "()V"⟩, 11), (⟨"DiagramBench$Pool", "markedWith", "(I)I"⟩, 9), (⟨"DiagramBench", "hasFunction", "(I)Z"⟩, 11), (⟨"DiagramBench", "fixStep", "(IIZ)I"⟩, 11), (⟨"DiagramBench$Pool", "fixFrom", "(IIZI)I"⟩, 9), (⟨"DiagramBench$Pool", "pathsFrom", "(III)I"⟩, 9), (⟨"DiagramBench", "notePart", "(II)V"⟩, 11), (⟨"DiagramBenchModel", "isGate", "(II)Z"⟩, 35), (⟨"DiagramBenchModel", "isOutput", "(II)Z"⟩, 35), (⟨"DiagramBenchModel", "isEmpty", "()Z"⟩, 35), (⟨"DiagramBenchModel", "go", "(II)V"⟩, 35)]
theorem lw_r2 : ∀ q ∈ lw_privs_2, lw_okq q := List.forall_mem_cons.mpr ⟨lw_p16, List.forall_mem_cons.mpr ⟨lw_p17, List.forall_mem_cons.mpr ⟨lw_p18, List.forall_mem_cons.mpr ⟨lw_p19, List.forall_mem_cons.mpr ⟨lw_p20, List.forall_mem_cons.mpr ⟨lw_p21, List.forall_mem_cons.mpr ⟨lw_p22, List.forall_mem_cons.mpr ⟨lw_p23, List.forall_mem_cons.mpr ⟨lw_p24, List.forall_mem_cons.mpr ⟨lw_p25, List.forall_mem_cons.mpr ⟨lw_p26, List.forall_mem_cons.mpr ⟨lw_p27, List.forall_mem_cons.mpr ⟨lw_p28, List.forall_mem_cons.mpr ⟨lw_p29, List.forall_mem_cons.mpr ⟨lw_p30, List.forall_mem_cons.mpr ⟨lw_p31, fun _ h => absurd h List.not_mem_nil⟩⟩⟩⟩⟩⟩⟩⟩⟩⟩⟩⟩⟩⟩⟩⟩
theorem lw_p32 : lw_okq (⟨"DiagramBenchModel", "begin", "()V"⟩, 35) := ⟨⟨by decide +kernel, by decide +kernel⟩, List.mem_of_getElem? (i := 549) (by decide +kernel), List.mem_of_getElem? (i := 736) (by decide +kernel), List.mem_of_getElem? (i := 737) (by decide +kernel)⟩
theorem lw_p33 : lw_okq (⟨"DiagramBenchModel", "builds", "(II)Z"⟩, 35) := ⟨⟨by decide +kernel, by decide +kernel⟩, List.mem_of_getElem? (i := 549) (by decide +kernel), List.mem_of_getElem? (i := 740) (by decide +kernel), List.mem_of_getElem? (i := 741) (by decide +kernel)⟩
theorem lw_p34 : lw_okq (⟨"DiagramBenchModel", "needs", "(II)V"⟩, 35) := ⟨⟨by decide +kernel, by decide +kernel⟩, List.mem_of_getElem? (i := 549) (by decide +kernel), List.mem_of_getElem? (i := 744) (by decide +kernel), List.mem_of_getElem? (i := 745) (by decide +kernel)⟩
theorem lw_p35 : lw_okq (⟨"DiagramBenchModel", "makeVariable", "(II)V"⟩, 35) := ⟨⟨by decide +kernel, by decide +kernel⟩, List.mem_of_getElem? (i := 549) (by decide +kernel), List.mem_of_getElem? (i := 748) (by decide +kernel), List.mem_of_getElem? (i := 749) (by decide +kernel)⟩
theorem lw_p36 : lw_okq (⟨"DiagramBenchModel", "makeChoice", "(IIII)V"⟩, 35) := ⟨⟨by decide +kernel, by decide +kernel⟩, List.mem_of_getElem? (i := 549) (by decide +kernel), List.mem_of_getElem? (i := 753) (by decide +kernel), List.mem_of_getElem? (i := 754) (by decide +kernel)⟩
theorem lw_p37 : lw_okq (⟨"DiagramBenchModel", "makeOf", "(IIII)V"⟩, 35) := ⟨⟨by decide +kernel, by decide +kernel⟩, List.mem_of_getElem? (i := 549) (by decide +kernel), List.mem_of_getElem? (i := 757) (by decide +kernel), List.mem_of_getElem? (i := 758) (by decide +kernel)⟩
theorem lw_p38 : lw_okq (⟨"DiagramBenchModel", "steps", "(I)Z"⟩, 35) := ⟨⟨by decide +kernel, by decide +kernel⟩, List.mem_of_getElem? (i := 549) (by decide +kernel), List.mem_of_getElem? (i := 764) (by decide +kernel), List.mem_of_getElem? (i := 765) (by decide +kernel)⟩
theorem lw_p39 : lw_okq (⟨"DiagramBenchModel", "add", "(I)V"⟩, 35) := ⟨⟨by decide +kernel, by decide +kernel⟩, List.mem_of_getElem? (i := 549) (by decide +kernel), List.mem_of_getElem? (i := 768) (by decide +kernel), List.mem_of_getElem? (i := 769) (by decide +kernel)⟩
theorem lw_p40 : lw_okq (⟨"DiagramBenchModel", "lays", "(III)Z"⟩, 35) := ⟨⟨by decide +kernel, by decide +kernel⟩, List.mem_of_getElem? (i := 549) (by decide +kernel), List.mem_of_getElem? (i := 772) (by decide +kernel), List.mem_of_getElem? (i := 773) (by decide +kernel)⟩
theorem lw_p41 : lw_okq (⟨"DiagramBenchModel", "nodeFor", "(I)I"⟩, 35) := ⟨⟨by decide +kernel, by decide +kernel⟩, List.mem_of_getElem? (i := 549) (by decide +kernel), List.mem_of_getElem? (i := 776) (by decide +kernel), List.mem_of_getElem? (i := 777) (by decide +kernel)⟩
theorem lw_p42 : lw_okq (⟨"DiagramBenchModel", "bucket", "(I)I"⟩, 35) := ⟨⟨by decide +kernel, by decide +kernel⟩, List.mem_of_getElem? (i := 549) (by decide +kernel), List.mem_of_getElem? (i := 780) (by decide +kernel), List.mem_of_getElem? (i := 781) (by decide +kernel)⟩
theorem lw_p43 : lw_okq (⟨"DiagramBenchModel", "remove", "(I)V"⟩, 35) := ⟨⟨by decide +kernel, by decide +kernel⟩, List.mem_of_getElem? (i := 549) (by decide +kernel), List.mem_of_getElem? (i := 785) (by decide +kernel), List.mem_of_getElem? (i := 786) (by decide +kernel)⟩
theorem lw_p44 : lw_okq (⟨"DiagramBenchModel", "unlink", "(I)V"⟩, 35) := ⟨⟨by decide +kernel, by decide +kernel⟩, List.mem_of_getElem? (i := 549) (by decide +kernel), List.mem_of_getElem? (i := 789) (by decide +kernel), List.mem_of_getElem? (i := 790) (by decide +kernel)⟩
theorem lw_p45 : lw_okq (⟨"DiagramBenchModel", "gets", "(IIZ)I"⟩, 35) := ⟨⟨by decide +kernel, by decide +kernel⟩, List.mem_of_getElem? (i := 549) (by decide +kernel), List.mem_of_getElem? (i := 793) (by decide +kernel), List.mem_of_getElem? (i := 794) (by decide +kernel)⟩
theorem lw_p46 : lw_okq (⟨"DiagramBenchModel", "take", "(II)V"⟩, 35) := ⟨⟨by decide +kernel, by decide +kernel⟩, List.mem_of_getElem? (i := 549) (by decide +kernel), List.mem_of_getElem? (i := 797) (by decide +kernel), List.mem_of_getElem? (i := 798) (by decide +kernel)⟩
theorem lw_p47 : lw_okq (⟨"DiagramBenchModel", "clearHand", "()V"⟩, 35) := ⟨⟨by decide +kernel, by decide +kernel⟩, List.mem_of_getElem? (i := 549) (by decide +kernel), List.mem_of_getElem? (i := 801) (by decide +kernel), List.mem_of_getElem? (i := 802) (by decide +kernel)⟩
def lw_privs_3 : List (MethodName × Nat) := [(⟨"DiagramBenchModel", "begin", "()V"⟩, 35), (⟨"DiagramBenchModel", "builds", "(II)Z"⟩, 35), (⟨"DiagramBenchModel", "needs", "(II)V"⟩, 35), (⟨"DiagramBenchModel", "makeVariable", "(II)V"⟩, 35), (⟨"DiagramBenchModel", "makeChoice", "(IIII)V"⟩, 35), (⟨"DiagramBenchModel", "makeOf", "(IIII)V"⟩, 35), (⟨"DiagramBenchModel", "steps", "(I)Z"⟩, 35), (⟨"DiagramBenchModel", "add", "(I)V"⟩, 35), (⟨"DiagramBenchModel", "lays", "(III)Z"⟩, 35), (⟨"DiagramBenchModel", "nodeFor", "(I)I"⟩, 35), (⟨"DiagramBenchModel", "bucket", "(I)I"⟩, 35), (⟨"DiagramBenchModel", "remove", "(I)V"⟩, 35), (⟨"DiagramBenchModel", "unlink", "(I)V"⟩, 35), (⟨"DiagramBenchModel", "gets", "(IIZ)I"⟩, 35), (⟨"DiagramBenchModel", "take", "(II)V"⟩, 35), (⟨"DiagramBenchModel", "clearHand", "()V"⟩, 35)]
theorem lw_r3 : ∀ q ∈ lw_privs_3, lw_okq q := List.forall_mem_cons.mpr ⟨lw_p32, List.forall_mem_cons.mpr ⟨lw_p33, List.forall_mem_cons.mpr ⟨lw_p34, List.forall_mem_cons.mpr ⟨lw_p35, List.forall_mem_cons.mpr ⟨lw_p36, List.forall_mem_cons.mpr ⟨lw_p37, List.forall_mem_cons.mpr ⟨lw_p38, List.forall_mem_cons.mpr ⟨lw_p39, List.forall_mem_cons.mpr ⟨lw_p40, List.forall_mem_cons.mpr ⟨lw_p41, List.forall_mem_cons.mpr ⟨lw_p42, List.forall_mem_cons.mpr ⟨lw_p43, List.forall_mem_cons.mpr ⟨lw_p44, List.forall_mem_cons.mpr ⟨lw_p45, List.forall_mem_cons.mpr ⟨lw_p46, List.forall_mem_cons.mpr ⟨lw_p47, fun _ h => absurd h List.not_mem_nil⟩⟩⟩⟩⟩⟩⟩⟩⟩⟩⟩⟩⟩⟩⟩⟩
theorem lw_p48 : lw_okq (⟨"DiagramBenchModel", "isFunction", "(I)Z"⟩, 35) := ⟨⟨by decide +kernel, by decide +kernel⟩, List.mem_of_getElem? (i := 549) (by decide +kernel), List.mem_of_getElem? (i := 813) (by decide +kernel), List.mem_of_getElem? (i := 814) (by decide +kernel)⟩
theorem lw_p49 : lw_okq (⟨"DiagramBenchModel", "noHalf", "(III)I"⟩, 35) := ⟨⟨by decide +kernel, by decide +kernel⟩, List.mem_of_getElem? (i := 549) (by decide +kernel), List.mem_of_getElem? (i := 825) (by decide +kernel), List.mem_of_getElem? (i := 826) (by decide +kernel)⟩
theorem lw_p50 : lw_okq (⟨"DiagramBenchModel", "makeHalf", "(IIIZ)V"⟩, 35) := ⟨⟨by decide +kernel, by decide +kernel⟩, List.mem_of_getElem? (i := 549) (by decide +kernel), List.mem_of_getElem? (i := 829) (by decide +kernel), List.mem_of_getElem? (i := 830) (by decide +kernel)⟩
theorem lw_p51 : lw_okq (⟨"DiagramBenchModel", "halves", "(II)Z"⟩, 35) := ⟨⟨by decide +kernel, by decide +kernel⟩, List.mem_of_getElem? (i := 549) (by decide +kernel), List.mem_of_getElem? (i := 837) (by decide +kernel), List.mem_of_getElem? (i := 838) (by decide +kernel)⟩
theorem lw_p52 : lw_okq (⟨"DiagramBenchModel", "stands", "(I)I"⟩, 35) := ⟨⟨by decide +kernel, by decide +kernel⟩, List.mem_of_getElem? (i := 549) (by decide +kernel), List.mem_of_getElem? (i := 873) (by decide +kernel), List.mem_of_getElem? (i := 874) (by decide +kernel)⟩
theorem lw_p53 : lw_okq (⟨"DiagramBenchModel", "bit", "(II)Z"⟩, 35) := ⟨⟨by decide +kernel, by decide +kernel⟩, List.mem_of_getElem? (i := 549) (by decide +kernel), List.mem_of_getElem? (i := 877) (by decide +kernel), List.mem_of_getElem? (i := 878) (by decide +kernel)⟩
theorem lw_p54 : lw_okq (⟨"DiagramBenchModel", "hangs", "(II)Z"⟩, 35) := ⟨⟨by decide +kernel, by decide +kernel⟩, List.mem_of_getElem? (i := 549) (by decide +kernel), List.mem_of_getElem? (i := 893) (by decide +kernel), List.mem_of_getElem? (i := 894) (by decide +kernel)⟩
theorem lw_p55 : lw_okq (⟨"DiagramBenchModel", "leastOf", "(IZ)I"⟩, 35) := ⟨⟨by decide +kernel, by decide +kernel⟩, List.mem_of_getElem? (i := 549) (by decide +kernel), List.mem_of_getElem? (i := 909) (by decide +kernel), List.mem_of_getElem? (i := 910) (by decide +kernel)⟩
theorem lw_p56 : lw_okq (⟨"DiagramBenchModel", "assignmentAt", "(I)I"⟩, 35) := ⟨⟨by decide +kernel, by decide +kernel⟩, List.mem_of_getElem? (i := 549) (by decide +kernel), List.mem_of_getElem? (i := 913) (by decide +kernel), List.mem_of_getElem? (i := 914) (by decide +kernel)⟩
def lw_privs_4 : List (MethodName × Nat) := [(⟨"DiagramBenchModel", "isFunction", "(I)Z"⟩, 35), (⟨"DiagramBenchModel", "noHalf", "(III)I"⟩, 35), (⟨"DiagramBenchModel", "makeHalf", "(IIIZ)V"⟩, 35), (⟨"DiagramBenchModel", "halves", "(II)Z"⟩, 35), (⟨"DiagramBenchModel", "stands", "(I)I"⟩, 35), (⟨"DiagramBenchModel", "bit", "(II)Z"⟩, 35), (⟨"DiagramBenchModel", "hangs", "(II)Z"⟩, 35), (⟨"DiagramBenchModel", "leastOf", "(IZ)I"⟩, 35), (⟨"DiagramBenchModel", "assignmentAt", "(I)I"⟩, 35)]
theorem lw_r4 : ∀ q ∈ lw_privs_4, lw_okq q := List.forall_mem_cons.mpr ⟨lw_p48, List.forall_mem_cons.mpr ⟨lw_p49, List.forall_mem_cons.mpr ⟨lw_p50, List.forall_mem_cons.mpr ⟨lw_p51, List.forall_mem_cons.mpr ⟨lw_p52, List.forall_mem_cons.mpr ⟨lw_p53, List.forall_mem_cons.mpr ⟨lw_p54, List.forall_mem_cons.mpr ⟨lw_p55, List.forall_mem_cons.mpr ⟨lw_p56, fun _ h => absurd h List.not_mem_nil⟩⟩⟩⟩⟩⟩⟩⟩⟩
def lw_privs : List (MethodName × Nat) := lw_privs_1 ++ (lw_privs_2 ++ (lw_privs_3 ++ (lw_privs_4)))
def lw_tbl : List Cond := k2_sels lw_privs ++ tables_1
theorem lw_privs_ok : ∀ q ∈ lw_privs, lw_okq q := by
  show ∀ q ∈ lw_privs_1 ++ (lw_privs_2 ++ (lw_privs_3 ++ (lw_privs_4))), lw_okq q
  exact List.forall_mem_append.mpr ⟨lw_r1, List.forall_mem_append.mpr ⟨lw_r2, List.forall_mem_append.mpr ⟨lw_r3, lw_r4⟩⟩⟩
-- ===== end of PART A; then your names; then what follows =====
end
section
/-! ===== BEGIN words of one list among another's, by their places ===== -/
theorem goodIn_r {big : List Cond} (ws : List Cond) (ps : List Nat) (hp : ws = ps.filterMap (fun i => big[i]?)) (h : ws.all goodWord = true) : GoodIn big ws := by
  intro w hw
  have h1 := List.all_eq_true.mp h w hw
  rw [hp] at hw
  obtain ⟨i, -, hi⟩ := List.mem_filterMap.mp hw
  have hm : w ∈ big := by first | exact List.mem_of_getElem? hi | exact List.getElem?_mem hi
  exact ⟨hm, good_of_word h1⟩
theorem goodIn_app {big a b : List Cond} (ha : GoodIn big a) (hb : GoodIn big b) : GoodIn big (a ++ b) := fun w h => (List.mem_append.mp h).elim (ha w) (hb w)
theorem goodIn_ca {big a b : List Cond} {c : Cond} (ha : GoodIn big (c :: a)) (hb : GoodIn big b) : GoodIn big (c :: (a ++ b)) := fun w h => (List.mem_cons.mp h).elim (fun e => ha w (List.mem_cons.mpr (Or.inl e))) (fun h => (List.mem_append.mp h).elim (fun h => ha w (List.mem_cons.mpr (Or.inr h))) (hb w))
theorem goodIn_sub {big ws : List Cond} (hm : ∀ w ∈ ws, w ∈ big) (h : ws.all goodWord = true) : GoodIn big ws := fun w hw => ⟨hm w hw, good_of_word (List.all_eq_true.mp h w hw)⟩
/-! ===== END ===== -/

/-! ===== BEGIN printed: names, fields, word lists, decode rows ===== -/
def RX0 : String := "DiagramBench$Net"
def TX0 : u_T := fun k => match k with
  | 0 => ("DiagramBench$Net", "kinds", "[I", true)
  | 1 => ("DiagramBench$Net", "operands", "[I", true)
  | 2 => ("DiagramBench$Net", "outputGates", "[I", true)
  | 3 => ("DiagramBench$Net", "ofGates", "[I", true)
  | 4 => ("DiagramBench$Net", "gates", "I", false)
  | _ => ("DiagramBench$Net", "outputs", "I", false)
def tyX0 : Nat → FieldType := fun k => match k with
  | 0 => .array .int
  | 1 => .array .int
  | 2 => .array .int
  | 3 => .array .int
  | 4 => .int
  | _ => .int
abbrev wsX00 : List Cond := u_ws RX0 TX0 6
theorem nmX0 : ∀ a, a < 6 → ∀ b, b < 6 → a ≠ b → (TX0 a).2.1 ≠ (TX0 b).2.1 := by decide +kernel
theorem tyX0_ok : ∀ k, k < 6 → parseFieldDescriptor (TX0 k).2.2.1 = some (tyX0 k) := by decide +kernel
abbrev cX0_init : ByteArray := prog_2_method_1_code
def yX0_init : MethodName := ⟨RX0, "<init>", "()V"⟩
abbrev cX0_gateCount : ByteArray := prog_2_method_2_code
def yX0_gateCount : MethodName := ⟨RX0, "gateCount", "()I"⟩
abbrev cX0_outputCount : ByteArray := prog_2_method_3_code
def yX0_outputCount : MethodName := ⟨RX0, "outputCount", "()I"⟩
abbrev cX0_hasGate : ByteArray := prog_2_method_4_code
def yX0_hasGate : MethodName := ⟨RX0, "hasGate", "(I)Z"⟩
abbrev cX0_hasOutput : ByteArray := prog_2_method_5_code
def yX0_hasOutput : MethodName := ⟨RX0, "hasOutput", "(I)Z"⟩
abbrev cX0_hasOperands : ByteArray := prog_2_method_6_code
def yX0_hasOperands : MethodName := ⟨RX0, "hasOperands", "(IIII)Z"⟩
abbrev cX0_addGate : ByteArray := prog_2_method_7_code
def yX0_addGate : MethodName := ⟨RX0, "addGate", "(IIII)I"⟩
abbrev cX0_addOutput : ByteArray := prog_2_method_8_code
def yX0_addOutput : MethodName := ⟨RX0, "addOutput", "(I)I"⟩
abbrev cX0_empty : ByteArray := prog_2_method_9_code
def yX0_empty : MethodName := ⟨RX0, "empty", "()I"⟩
abbrev cX0_kindOf : ByteArray := prog_2_method_10_code
def yX0_kindOf : MethodName := ⟨RX0, "kindOf", "(I)I"⟩
abbrev cX0_operand : ByteArray := prog_2_method_11_code
def yX0_operand : MethodName := ⟨RX0, "operand", "(II)I"⟩
abbrev cX0_outputValue : ByteArray := prog_2_method_12_code
def yX0_outputValue : MethodName := ⟨RX0, "outputValue", "(II)I"⟩
abbrev cX0_gateValue : ByteArray := prog_2_method_13_code
def yX0_gateValue : MethodName := ⟨RX0, "gateValue", "(II)I"⟩
abbrev cX0_findNeeds : ByteArray := prog_2_method_14_code
def yX0_findNeeds : MethodName := ⟨RX0, "findNeeds", "(I[I)I"⟩
abbrev cX0_noteNeedsOf : ByteArray := prog_2_method_15_code
def yX0_noteNeedsOf : MethodName := ⟨RX0, "noteNeedsOf", "(I[I)V"⟩
abbrev cX0_meetVariables : ByteArray := prog_2_method_16_code
def yX0_meetVariables : MethodName := ⟨RX0, "meetVariables", "(LDiagramBench$Order;)V"⟩
abbrev cX0_goInto : ByteArray := prog_2_method_17_code
def yX0_goInto : MethodName := ⟨RX0, "goInto", "(ILDiagramBench$Order;I)V"⟩
def RX1 : String := "DiagramBench$Order"
def TX1 : u_T := fun k => match k with
  | 0 => ("DiagramBench$Order", "variables", "[I", true)
  | 1 => ("DiagramBench$Order", "placesOf", "[I", true)
  | _ => ("DiagramBench$Order", "met", "I", false)
def tyX1 : Nat → FieldType := fun k => match k with
  | 0 => .array .int
  | 1 => .array .int
  | _ => .int
abbrev wsX10 : List Cond := u_ws RX1 TX1 3
theorem nmX1 : ∀ a, a < 3 → ∀ b, b < 3 → a ≠ b → (TX1 a).2.1 ≠ (TX1 b).2.1 := by decide +kernel
theorem tyX1_ok : ∀ k, k < 3 → parseFieldDescriptor (TX1 k).2.2.1 = some (tyX1 k) := by decide +kernel
abbrev cX1_init : ByteArray := prog_3_method_1_code
def yX1_init : MethodName := ⟨RX1, "<init>", "()V"⟩
abbrev cX1_variableAt : ByteArray := prog_3_method_2_code
def yX1_variableAt : MethodName := ⟨RX1, "variableAt", "(I)I"⟩
abbrev cX1_placeOf : ByteArray := prog_3_method_3_code
def yX1_placeOf : MethodName := ⟨RX1, "placeOf", "(I)I"⟩
abbrev cX1_forget : ByteArray := prog_3_method_4_code
def yX1_forget : MethodName := ⟨RX1, "forget", "()V"⟩
abbrev cX1_meet : ByteArray := prog_3_method_5_code
def yX1_meet : MethodName := ⟨RX1, "meet", "(I)V"⟩
abbrev cX1_meetOthers : ByteArray := prog_3_method_6_code
def yX1_meetOthers : MethodName := ⟨RX1, "meetOthers", "()I"⟩
abbrev cX1_moveTo : ByteArray := prog_3_method_7_code
def yX1_moveTo : MethodName := ⟨RX1, "moveTo", "(II)I"⟩
abbrev cX1_put : ByteArray := prog_3_method_8_code
def yX1_put : MethodName := ⟨RX1, "put", "(II)V"⟩
def RX2 : String := "DiagramBench$Pool"
def TX2 : u_T := fun k => match k with
  | 0 => ("DiagramBench$Pool", "places", "[I", true)
  | 1 => ("DiagramBench$Pool", "lows", "[I", true)
  | 2 => ("DiagramBench$Pool", "highs", "[I", true)
  | 3 => ("DiagramBench$Pool", "marks", "[I", true)
  | 4 => ("DiagramBench$Pool", "next", "[I", true)
  | 5 => ("DiagramBench$Pool", "rows", "[I", true)
  | 6 => ("DiagramBench$Pool", "firstFree", "I", false)
  | 7 => ("DiagramBench$Pool", "used", "I", false)
  | _ => ("DiagramBench$Pool", "most", "I", false)
def tyX2 : Nat → FieldType := fun k => match k with
  | 0 => .array .int
  | 1 => .array .int
  | 2 => .array .int
  | 3 => .array .int
  | 4 => .array .int
  | 5 => .array .int
  | 6 => .int
  | 7 => .int
  | _ => .int
abbrev wsX20 : List Cond := u_ws RX2 TX2 9
theorem nmX2 : ∀ a, a < 9 → ∀ b, b < 9 → a ≠ b → (TX2 a).2.1 ≠ (TX2 b).2.1 := by decide +kernel
theorem tyX2_ok : ∀ k, k < 9 → parseFieldDescriptor (TX2 k).2.2.1 = some (tyX2 k) := by decide +kernel
abbrev cX2_init : ByteArray := prog_4_method_1_code
def yX2_init : MethodName := ⟨RX2, "<init>", "()V"⟩
abbrev cX2_limit : ByteArray := prog_4_method_2_code
def yX2_limit : MethodName := ⟨RX2, "limit", "()I"⟩
abbrev cX2_changeLimit : ByteArray := prog_4_method_3_code
def yX2_changeLimit : MethodName := ⟨RX2, "changeLimit", "(I)I"⟩
abbrev cX2_usedCount : ByteArray := prog_4_method_4_code
def yX2_usedCount : MethodName := ⟨RX2, "usedCount", "()I"⟩
abbrev cX2_placeOf : ByteArray := prog_4_method_5_code
def yX2_placeOf : MethodName := ⟨RX2, "placeOf", "(I)I"⟩
abbrev cX2_unmark : ByteArray := prog_4_method_6_code
def yX2_unmark : MethodName := ⟨RX2, "unmark", "()V"⟩
abbrev cX2_mark : ByteArray := prog_4_method_7_code
def yX2_mark : MethodName := ⟨RX2, "mark", "(I)V"⟩
abbrev cX2_markWith : ByteArray := prog_4_method_8_code
def yX2_markWith : MethodName := ⟨RX2, "markWith", "(III)V"⟩
abbrev cX2_markedWith : ByteArray := prog_4_method_9_code
def yX2_markedWith : MethodName := ⟨RX2, "markedWith", "(I)I"⟩
abbrev cX2_nodeCount : ByteArray := prog_4_method_10_code
def yX2_nodeCount : MethodName := ⟨RX2, "nodeCount", "(I)I"⟩
abbrev cX2_nodeCountAt : ByteArray := prog_4_method_11_code
def yX2_nodeCountAt : MethodName := ⟨RX2, "nodeCountAt", "(II)I"⟩
abbrev cX2_commonCount : ByteArray := prog_4_method_12_code
def yX2_commonCount : MethodName := ⟨RX2, "commonCount", "(II)I"⟩
abbrev cX2_sweep : ByteArray := prog_4_method_13_code
def yX2_sweep : MethodName := ⟨RX2, "sweep", "()V"⟩
abbrev cX2_makeVariable : ByteArray := prog_4_method_14_code
def yX2_makeVariable : MethodName := ⟨RX2, "makeVariable", "(I)I"⟩
abbrev cX2_make : ByteArray := prog_4_method_15_code
def yX2_make : MethodName := ⟨RX2, "make", "(IIII)I"⟩
abbrev cX2_makeFrom : ByteArray := prog_4_method_16_code
def yX2_makeFrom : MethodName := ⟨RX2, "makeFrom", "(IIIII)I"⟩
abbrev cX2_knowing : ByteArray := prog_4_method_17_code
def yX2_knowing : MethodName := ⟨RX2, "knowing", "(IIII)I"⟩
abbrev cX2_lowAt : ByteArray := prog_4_method_18_code
def yX2_lowAt : MethodName := ⟨RX2, "lowAt", "(II)I"⟩
abbrev cX2_highAt : ByteArray := prog_4_method_19_code
def yX2_highAt : MethodName := ⟨RX2, "highAt", "(II)I"⟩
abbrev cX2_makeFixed : ByteArray := prog_4_method_20_code
def yX2_makeFixed : MethodName := ⟨RX2, "makeFixed", "(IIZ)I"⟩
abbrev cX2_fixFrom : ByteArray := prog_4_method_21_code
def yX2_fixFrom : MethodName := ⟨RX2, "fixFrom", "(IIZI)I"⟩
abbrev cX2_nodeFor : ByteArray := prog_4_method_22_code
def yX2_nodeFor : MethodName := ⟨RX2, "nodeFor", "(III)I"⟩
abbrev cX2_enter : ByteArray := prog_4_method_23_code
def yX2_enter : MethodName := ⟨RX2, "enter", "(I)V"⟩
abbrev cX2_valueFor : ByteArray := prog_4_method_24_code
def yX2_valueFor : MethodName := ⟨RX2, "valueFor", "(IILDiagramBench$Order;)I"⟩
abbrev cX2_leastFor : ByteArray := prog_4_method_25_code
def yX2_leastFor : MethodName := ⟨RX2, "leastFor", "(IILDiagramBench$Order;)I"⟩
abbrev cX2_pathCount : ByteArray := prog_4_method_26_code
def yX2_pathCount : MethodName := ⟨RX2, "pathCount", "(II)I"⟩
abbrev cX2_pathsFrom : ByteArray := prog_4_method_27_code
def yX2_pathsFrom : MethodName := ⟨RX2, "pathsFrom", "(III)I"⟩
def RX3 : String := "DiagramBench"
def TX3 : u_T := fun k => match k with
  | 0 => ("DiagramBench", "nets", "[LDiagramBench$Net;", true)
  | 1 => ("DiagramBench", "places", "LDiagramBench$Order;", true)
  | 2 => ("DiagramBench", "pool", "LDiagramBench$Pool;", true)
  | 3 => ("DiagramBench", "held", "[I", true)
  | 4 => ("DiagramBench", "ofGate", "[I", true)
  | 5 => ("DiagramBench", "lastNeed", "[I", true)
  | 6 => ("DiagramBench", "kept", "[I", true)
  | 7 => ("DiagramBench", "keptCount", "I", false)
  | 8 => ("DiagramBench", "mostInUse", "I", false)
  | 9 => ("DiagramBench", "partedOutput", "I", false)
  | _ => ("DiagramBench", "partedAssignment", "I", false)
def tyX3 : Nat → FieldType := fun k => match k with
  | 0 => .array (.object "DiagramBench$Net")
  | 1 => .object "DiagramBench$Order"
  | 2 => .object "DiagramBench$Pool"
  | 3 => .array .int
  | 4 => .array .int
  | 5 => .array .int
  | 6 => .array .int
  | 7 => .int
  | 8 => .int
  | 9 => .int
  | _ => .int
abbrev wsX30 : List Cond := u_ws RX3 TX3 11
theorem nmX3 : ∀ a, a < 11 → ∀ b, b < 11 → a ≠ b → (TX3 a).2.1 ≠ (TX3 b).2.1 := by decide +kernel
theorem tyX3_ok : ∀ k, k < 11 → parseFieldDescriptor (TX3 k).2.2.1 = some (tyX3 k) := by decide +kernel
abbrev cX3_init : ByteArray := prog_1_method_1_code
def yX3_init : MethodName := ⟨RX3, "<init>", "()V"⟩
abbrev cX3_gate : ByteArray := prog_1_method_2_code
def yX3_gate : MethodName := ⟨RX3, "gate", "(IIIII)I"⟩
abbrev cX3_output : ByteArray := prog_1_method_3_code
def yX3_output : MethodName := ⟨RX3, "output", "(II)I"⟩
abbrev cX3_clear : ByteArray := prog_1_method_4_code
def yX3_clear : MethodName := ⟨RX3, "clear", "(I)I"⟩
abbrev cX3_gives : ByteArray := prog_1_method_5_code
def yX3_gives : MethodName := ⟨RX3, "gives", "(III)I"⟩
abbrev cX3_order : ByteArray := prog_1_method_6_code
def yX3_order : MethodName := ⟨RX3, "order", "(I)I"⟩
abbrev cX3_move : ByteArray := prog_1_method_7_code
def yX3_move : MethodName := ⟨RX3, "move", "(II)I"⟩
abbrev cX3_at : ByteArray := prog_1_method_8_code
def yX3_at : MethodName := ⟨RX3, "at", "(I)I"⟩
abbrev cX3_room : ByteArray := prog_1_method_9_code
def yX3_room : MethodName := ⟨RX3, "room", "(I)I"⟩
abbrev cX3_build : ByteArray := prog_1_method_10_code
def yX3_build : MethodName := ⟨RX3, "build", "(III)I"⟩
abbrev cX3_variable : ByteArray := prog_1_method_11_code
def yX3_variable : MethodName := ⟨RX3, "variable", "(II)I"⟩
abbrev cX3_combine : ByteArray := prog_1_method_12_code
def yX3_combine : MethodName := ⟨RX3, "combine", "(IIII)I"⟩
abbrev cX3_choose : ByteArray := prog_1_method_13_code
def yX3_choose : MethodName := ⟨RX3, "choose", "(IIII)I"⟩
abbrev cX3_restrict : ByteArray := prog_1_method_14_code
def yX3_restrict : MethodName := ⟨RX3, "restrict", "(IIIZ)I"⟩
abbrev cX3_quantify : ByteArray := prog_1_method_15_code
def yX3_quantify : MethodName := ⟨RX3, "quantify", "(IIIZ)I"⟩
abbrev cX3_compose : ByteArray := prog_1_method_16_code
def yX3_compose : MethodName := ⟨RX3, "compose", "(IIII)I"⟩
abbrev cX3_share : ByteArray := prog_1_method_17_code
def yX3_share : MethodName := ⟨RX3, "share", "(II)I"⟩
abbrev cX3_drop : ByteArray := prog_1_method_18_code
def yX3_drop : MethodName := ⟨RX3, "drop", "(I)I"⟩
abbrev cX3_nodes : ByteArray := prog_1_method_19_code
def yX3_nodes : MethodName := ⟨RX3, "nodes", "(I)I"⟩
abbrev cX3_inUse : ByteArray := prog_1_method_20_code
def yX3_inUse : MethodName := ⟨RX3, "inUse", "()I"⟩
abbrev cX3_common : ByteArray := prog_1_method_21_code
def yX3_common : MethodName := ⟨RX3, "common", "(II)I"⟩
abbrev cX3_peak : ByteArray := prog_1_method_22_code
def yX3_peak : MethodName := ⟨RX3, "peak", "()I"⟩
abbrev cX3_value : ByteArray := prog_1_method_23_code
def yX3_value : MethodName := ⟨RX3, "value", "(II)I"⟩
abbrev cX3_same : ByteArray := prog_1_method_24_code
def yX3_same : MethodName := ⟨RX3, "same", "(II)I"⟩
abbrev cX3_count : ByteArray := prog_1_method_25_code
def yX3_count : MethodName := ⟨RX3, "count", "(I)I"⟩
abbrev cX3_support : ByteArray := prog_1_method_26_code
def yX3_support : MethodName := ⟨RX3, "support", "(I)I"⟩
abbrev cX3_top : ByteArray := prog_1_method_27_code
def yX3_top : MethodName := ⟨RX3, "top", "(I)I"⟩
abbrev cX3_level : ByteArray := prog_1_method_28_code
def yX3_level : MethodName := ⟨RX3, "level", "(II)I"⟩
abbrev cX3_least : ByteArray := prog_1_method_29_code
def yX3_least : MethodName := ⟨RX3, "least", "(IZ)I"⟩
abbrev cX3_paths : ByteArray := prog_1_method_30_code
def yX3_paths : MethodName := ⟨RX3, "paths", "(IZ)I"⟩
abbrev cX3_equal : ByteArray := prog_1_method_31_code
def yX3_equal : MethodName := ⟨RX3, "equal", "(II)I"⟩
abbrev cX3_parting : ByteArray := prog_1_method_32_code
def yX3_parting : MethodName := ⟨RX3, "parting", "(I)I"⟩
abbrev cX3_told : ByteArray := prog_1_method_33_code
def yX3_told : MethodName := ⟨RX3, "told", "(I)I"⟩
abbrev cX3_isNet : ByteArray := prog_1_method_34_code
def yX3_isNet : MethodName := ⟨RX3, "isNet", "(I)Z"⟩
abbrev cX3_isVariable : ByteArray := prog_1_method_35_code
def yX3_isVariable : MethodName := ⟨RX3, "isVariable", "(I)Z"⟩
abbrev cX3_isAssignment : ByteArray := prog_1_method_36_code
def yX3_isAssignment : MethodName := ⟨RX3, "isAssignment", "(I)Z"⟩
abbrev cX3_isHandle : ByteArray := prog_1_method_37_code
def yX3_isHandle : MethodName := ⟨RX3, "isHandle", "(I)Z"⟩
abbrev cX3_hasFunction : ByteArray := prog_1_method_38_code
def yX3_hasFunction : MethodName := ⟨RX3, "hasFunction", "(I)Z"⟩
abbrev cX3_heldCount : ByteArray := prog_1_method_39_code
def yX3_heldCount : MethodName := ⟨RX3, "heldCount", "()I"⟩
abbrev cX3_beginSteps : ByteArray := prog_1_method_40_code
def yX3_beginSteps : MethodName := ⟨RX3, "beginSteps", "()V"⟩
abbrev cX3_endSteps : ByteArray := prog_1_method_41_code
def yX3_endSteps : MethodName := ⟨RX3, "endSteps", "()V"⟩
abbrev cX3_give : ByteArray := prog_1_method_42_code
def yX3_give : MethodName := ⟨RX3, "give", "(II)I"⟩
abbrev cX3_keep : ByteArray := prog_1_method_43_code
def yX3_keep : MethodName := ⟨RX3, "keep", "(I)I"⟩
abbrev cX3_kindStep : ByteArray := prog_1_method_44_code
def yX3_kindStep : MethodName := ⟨RX3, "kindStep", "(IIII)I"⟩
abbrev cX3_variableStep : ByteArray := prog_1_method_45_code
def yX3_variableStep : MethodName := ⟨RX3, "variableStep", "(I)I"⟩
abbrev cX3_fixStep : ByteArray := prog_1_method_46_code
def yX3_fixStep : MethodName := ⟨RX3, "fixStep", "(IIZ)I"⟩
abbrev cX3_measured : ByteArray := prog_1_method_47_code
def yX3_measured : MethodName := ⟨RX3, "measured", "(I)I"⟩
abbrev cX3_collect : ByteArray := prog_1_method_48_code
def yX3_collect : MethodName := ⟨RX3, "collect", "()V"⟩
abbrev cX3_building : ByteArray := prog_1_method_49_code
def yX3_building : MethodName := ⟨RX3, "building", "(LDiagramBench$Net;I)I"⟩
abbrev cX3_madeFor : ByteArray := prog_1_method_50_code
def yX3_madeFor : MethodName := ⟨RX3, "madeFor", "(LDiagramBench$Net;II)I"⟩
abbrev cX3_letGoBehind : ByteArray := prog_1_method_51_code
def yX3_letGoBehind : MethodName := ⟨RX3, "letGoBehind", "(LDiagramBench$Net;I)V"⟩
abbrev cX3_notePart : ByteArray := prog_1_method_52_code
def yX3_notePart : MethodName := ⟨RX3, "notePart", "(II)V"⟩
def RX4 : String := "DiagramBenchModel"
def TX4 : u_T := fun k => match k with
  | 0 => ("DiagramBenchModel", "gates", "[I", true)
  | 1 => ("DiagramBenchModel", "outputs", "[I", true)
  | 2 => ("DiagramBenchModel", "kind", "[I", true)
  | 3 => ("DiagramBenchModel", "of", "[I", true)
  | 4 => ("DiagramBenchModel", "outputAt", "[I", true)
  | 5 => ("DiagramBenchModel", "on", "[Z", true)
  | 6 => ("DiagramBenchModel", "order", "[I", true)
  | 7 => ("DiagramBenchModel", "placeOf", "[I", true)
  | 8 => ("DiagramBenchModel", "room", "I", false)
  | 9 => ("DiagramBenchModel", "seen", "[Z", true)
  | 10 => ("DiagramBenchModel", "pile", "[I", true)
  | 11 => ("DiagramBenchModel", "child", "[I", true)
  | 12 => ("DiagramBenchModel", "piled", "I", false)
  | 13 => ("DiagramBenchModel", "found", "I", false)
  | 14 => ("DiagramBenchModel", "has", "[Z", true)
  | 15 => ("DiagramBenchModel", "bits", "[J", true)
  | 16 => ("DiagramBenchModel", "nodeMany", "[I", true)
  | 17 => ("DiagramBenchModel", "nodeOf", "[I", true)
  | 18 => ("DiagramBenchModel", "depth", "[I", true)
  | 19 => ("DiagramBenchModel", "key", "[J", true)
  | 20 => ("DiagramBenchModel", "held", "[I", true)
  | 21 => ("DiagramBenchModel", "next", "[I", true)
  | 22 => ("DiagramBenchModel", "head", "[I", true)
  | 23 => ("DiagramBenchModel", "free", "I", false)
  | 24 => ("DiagramBenchModel", "using", "I", false)
  | 25 => ("DiagramBenchModel", "peak", "I", false)
  | 26 => ("DiagramBenchModel", "mark", "[I", true)
  | 27 => ("DiagramBenchModel", "marked", "I", false)
  | 28 => ("DiagramBenchModel", "part", "[J", true)
  | 29 => ("DiagramBenchModel", "where", "[J", true)
  | 30 => ("DiagramBenchModel", "needed", "[Z", true)
  | 31 => ("DiagramBenchModel", "lastNeed", "[I", true)
  | 32 => ("DiagramBenchModel", "ways", "[I", true)
  | 33 => ("DiagramBenchModel", "parted", "I", false)
  | _ => ("DiagramBenchModel", "parting", "I", false)
def tyX4 : Nat → FieldType := fun k => match k with
  | 0 => .array .int
  | 1 => .array .int
  | 2 => .array .int
  | 3 => .array .int
  | 4 => .array .int
  | 5 => .array .boolean
  | 6 => .array .int
  | 7 => .array .int
  | 8 => .int
  | 9 => .array .boolean
  | 10 => .array .int
  | 11 => .array .int
  | 12 => .int
  | 13 => .int
  | 14 => .array .boolean
  | 15 => .array .long
  | 16 => .array .int
  | 17 => .array .int
  | 18 => .array .int
  | 19 => .array .long
  | 20 => .array .int
  | 21 => .array .int
  | 22 => .array .int
  | 23 => .int
  | 24 => .int
  | 25 => .int
  | 26 => .array .int
  | 27 => .int
  | 28 => .array .long
  | 29 => .array .long
  | 30 => .array .boolean
  | 31 => .array .int
  | 32 => .array .int
  | 33 => .int
  | _ => .int
abbrev wsX40 : List Cond := u_ws RX4 TX4 35
theorem nmX4 : ∀ a, a < 35 → ∀ b, b < 35 → a ≠ b → (TX4 a).2.1 ≠ (TX4 b).2.1 := by decide +kernel
theorem tyX4_ok : ∀ k, k < 35 → parseFieldDescriptor (TX4 k).2.2.1 = some (tyX4 k) := by decide +kernel
abbrev cX4_init : ByteArray := prog_6_method_1_code
def yX4_init : MethodName := ⟨RX4, "<init>", "()V"⟩
abbrev cX4_in : ByteArray := prog_6_method_2_code
def yX4_in : MethodName := ⟨RX4, "in", "(III)Z"⟩
abbrev cX4_isNet : ByteArray := prog_6_method_3_code
def yX4_isNet : MethodName := ⟨RX4, "isNet", "(I)Z"⟩
abbrev cX4_isGate : ByteArray := prog_6_method_4_code
def yX4_isGate : MethodName := ⟨RX4, "isGate", "(II)Z"⟩
abbrev cX4_isOutput : ByteArray := prog_6_method_5_code
def yX4_isOutput : MethodName := ⟨RX4, "isOutput", "(II)Z"⟩
abbrev cX4_wants : ByteArray := prog_6_method_6_code
def yX4_wants : MethodName := ⟨RX4, "wants", "(I)I"⟩
abbrev cX4_gate : ByteArray := prog_6_method_7_code
def yX4_gate : MethodName := ⟨RX4, "gate", "(IIIII)I"⟩
abbrev cX4_output : ByteArray := prog_6_method_8_code
def yX4_output : MethodName := ⟨RX4, "output", "(II)I"⟩
abbrev cX4_clear : ByteArray := prog_6_method_9_code
def yX4_clear : MethodName := ⟨RX4, "clear", "(I)I"⟩
abbrev cX4_combined : ByteArray := prog_6_method_10_code
def yX4_combined : MethodName := ⟨RX4, "combined", "(IZZ)Z"⟩
abbrev cX4_gives : ByteArray := prog_6_method_11_code
def yX4_gives : MethodName := ⟨RX4, "gives", "(III)I"⟩
abbrev cX4_isEmpty : ByteArray := prog_6_method_12_code
def yX4_isEmpty : MethodName := ⟨RX4, "isEmpty", "()Z"⟩
abbrev cX4_go : ByteArray := prog_6_method_13_code
def yX4_go : MethodName := ⟨RX4, "go", "(II)V"⟩
abbrev cX4_order : ByteArray := prog_6_method_14_code
def yX4_order : MethodName := ⟨RX4, "order", "(I)I"⟩
abbrev cX4_move : ByteArray := prog_6_method_15_code
def yX4_move : MethodName := ⟨RX4, "move", "(II)I"⟩
abbrev cX4_at : ByteArray := prog_6_method_16_code
def yX4_at : MethodName := ⟨RX4, "at", "(I)I"⟩
abbrev cX4_room : ByteArray := prog_6_method_17_code
def yX4_room : MethodName := ⟨RX4, "room", "(I)I"⟩
abbrev cX4_bit : ByteArray := prog_6_method_18_code
def yX4_bit : MethodName := ⟨RX4, "bit", "(II)Z"⟩
abbrev cX4_lays : ByteArray := prog_6_method_19_code
def yX4_lays : MethodName := ⟨RX4, "lays", "(III)Z"⟩
abbrev cX4_bucket : ByteArray := prog_6_method_20_code
def yX4_bucket : MethodName := ⟨RX4, "bucket", "(I)I"⟩
abbrev cX4_nodeFor : ByteArray := prog_6_method_21_code
def yX4_nodeFor : MethodName := ⟨RX4, "nodeFor", "(I)I"⟩
abbrev cX4_unlink : ByteArray := prog_6_method_22_code
def yX4_unlink : MethodName := ⟨RX4, "unlink", "(I)V"⟩
abbrev cX4_add : ByteArray := prog_6_method_23_code
def yX4_add : MethodName := ⟨RX4, "add", "(I)V"⟩
abbrev cX4_remove : ByteArray := prog_6_method_24_code
def yX4_remove : MethodName := ⟨RX4, "remove", "(I)V"⟩
abbrev cX4_steps : ByteArray := prog_6_method_25_code
def yX4_steps : MethodName := ⟨RX4, "steps", "(I)Z"⟩
abbrev cX4_clearHand : ByteArray := prog_6_method_26_code
def yX4_clearHand : MethodName := ⟨RX4, "clearHand", "()V"⟩
abbrev cX4_take : ByteArray := prog_6_method_27_code
def yX4_take : MethodName := ⟨RX4, "take", "(II)V"⟩
abbrev cX4_gets : ByteArray := prog_6_method_28_code
def yX4_gets : MethodName := ⟨RX4, "gets", "(IIZ)I"⟩
abbrev cX4_makeVariable : ByteArray := prog_6_method_29_code
def yX4_makeVariable : MethodName := ⟨RX4, "makeVariable", "(II)V"⟩
abbrev cX4_joined : ByteArray := prog_6_method_30_code
def yX4_joined : MethodName := ⟨RX4, "joined", "(IJJ)J"⟩
abbrev cX4_makeOf : ByteArray := prog_6_method_31_code
def yX4_makeOf : MethodName := ⟨RX4, "makeOf", "(IIII)V"⟩
abbrev cX4_makeChoice : ByteArray := prog_6_method_32_code
def yX4_makeChoice : MethodName := ⟨RX4, "makeChoice", "(IIII)V"⟩
abbrev cX4_makeHalf : ByteArray := prog_6_method_33_code
def yX4_makeHalf : MethodName := ⟨RX4, "makeHalf", "(IIIZ)V"⟩
abbrev cX4_needs : ByteArray := prog_6_method_34_code
def yX4_needs : MethodName := ⟨RX4, "needs", "(II)V"⟩
abbrev cX4_builds : ByteArray := prog_6_method_35_code
def yX4_builds : MethodName := ⟨RX4, "builds", "(II)Z"⟩
abbrev cX4_isHandle : ByteArray := prog_6_method_36_code
def yX4_isHandle : MethodName := ⟨RX4, "isHandle", "(I)Z"⟩
abbrev cX4_isFunction : ByteArray := prog_6_method_37_code
def yX4_isFunction : MethodName := ⟨RX4, "isFunction", "(I)Z"⟩
abbrev cX4_begin : ByteArray := prog_6_method_38_code
def yX4_begin : MethodName := ⟨RX4, "begin", "()V"⟩
abbrev cX4_build : ByteArray := prog_6_method_39_code
def yX4_build : MethodName := ⟨RX4, "build", "(III)I"⟩
abbrev cX4_variable : ByteArray := prog_6_method_40_code
def yX4_variable : MethodName := ⟨RX4, "variable", "(II)I"⟩
abbrev cX4_combine : ByteArray := prog_6_method_41_code
def yX4_combine : MethodName := ⟨RX4, "combine", "(IIII)I"⟩
abbrev cX4_choose : ByteArray := prog_6_method_42_code
def yX4_choose : MethodName := ⟨RX4, "choose", "(IIII)I"⟩
abbrev cX4_noHalf : ByteArray := prog_6_method_43_code
def yX4_noHalf : MethodName := ⟨RX4, "noHalf", "(III)I"⟩
abbrev cX4_restrict : ByteArray := prog_6_method_44_code
def yX4_restrict : MethodName := ⟨RX4, "restrict", "(IIIZ)I"⟩
abbrev cX4_halves : ByteArray := prog_6_method_45_code
def yX4_halves : MethodName := ⟨RX4, "halves", "(II)Z"⟩
abbrev cX4_quantify : ByteArray := prog_6_method_46_code
def yX4_quantify : MethodName := ⟨RX4, "quantify", "(IIIZ)I"⟩
abbrev cX4_compose : ByteArray := prog_6_method_47_code
def yX4_compose : MethodName := ⟨RX4, "compose", "(IIII)I"⟩
abbrev cX4_share : ByteArray := prog_6_method_48_code
def yX4_share : MethodName := ⟨RX4, "share", "(II)I"⟩
abbrev cX4_drop : ByteArray := prog_6_method_49_code
def yX4_drop : MethodName := ⟨RX4, "drop", "(I)I"⟩
abbrev cX4_nodes : ByteArray := prog_6_method_50_code
def yX4_nodes : MethodName := ⟨RX4, "nodes", "(I)I"⟩
abbrev cX4_inUse : ByteArray := prog_6_method_51_code
def yX4_inUse : MethodName := ⟨RX4, "inUse", "()I"⟩
abbrev cX4_common : ByteArray := prog_6_method_52_code
def yX4_common : MethodName := ⟨RX4, "common", "(II)I"⟩
abbrev cX4_peak : ByteArray := prog_6_method_53_code
def yX4_peak : MethodName := ⟨RX4, "peak", "()I"⟩
abbrev cX4_stands : ByteArray := prog_6_method_54_code
def yX4_stands : MethodName := ⟨RX4, "stands", "(I)I"⟩
abbrev cX4_assignmentAt : ByteArray := prog_6_method_55_code
def yX4_assignmentAt : MethodName := ⟨RX4, "assignmentAt", "(I)I"⟩
abbrev cX4_value : ByteArray := prog_6_method_56_code
def yX4_value : MethodName := ⟨RX4, "value", "(II)I"⟩
abbrev cX4_same : ByteArray := prog_6_method_57_code
def yX4_same : MethodName := ⟨RX4, "same", "(II)I"⟩
abbrev cX4_count : ByteArray := prog_6_method_58_code
def yX4_count : MethodName := ⟨RX4, "count", "(I)I"⟩
abbrev cX4_hangs : ByteArray := prog_6_method_59_code
def yX4_hangs : MethodName := ⟨RX4, "hangs", "(II)Z"⟩
abbrev cX4_support : ByteArray := prog_6_method_60_code
def yX4_support : MethodName := ⟨RX4, "support", "(I)I"⟩
abbrev cX4_top : ByteArray := prog_6_method_61_code
def yX4_top : MethodName := ⟨RX4, "top", "(I)I"⟩
abbrev cX4_level : ByteArray := prog_6_method_62_code
def yX4_level : MethodName := ⟨RX4, "level", "(II)I"⟩
abbrev cX4_leastOf : ByteArray := prog_6_method_63_code
def yX4_leastOf : MethodName := ⟨RX4, "leastOf", "(IZ)I"⟩
abbrev cX4_least : ByteArray := prog_6_method_64_code
def yX4_least : MethodName := ⟨RX4, "least", "(IZ)I"⟩
abbrev cX4_paths : ByteArray := prog_6_method_65_code
def yX4_paths : MethodName := ⟨RX4, "paths", "(IZ)I"⟩
abbrev cX4_equal : ByteArray := prog_6_method_66_code
def yX4_equal : MethodName := ⟨RX4, "equal", "(II)I"⟩
abbrev cX4_parting : ByteArray := prog_6_method_67_code
def yX4_parting : MethodName := ⟨RX4, "parting", "(I)I"⟩
abbrev cX4_told : ByteArray := prog_6_method_68_code
def yX4_told : MethodName := ⟨RX4, "told", "(I)I"⟩
def RJ9 : String := "java/lang/Math"
def TJ9 : u_T := fun k => match k with
  | _ => ("", "", "", false)
def tyJ9 : Nat → FieldType := fun k => match k with
  | _ => .int
abbrev wsJ90 : List Cond := u_ws RJ9 TJ9 0
theorem nmJ9 : ∀ a, a < 0 → ∀ b, b < 0 → a ≠ b → (TJ9 a).2.1 ≠ (TJ9 b).2.1 := by decide +kernel
theorem tyJ9_ok : ∀ k, k < 0 → parseFieldDescriptor (TJ9 k).2.2.1 = some (tyJ9 k) := by decide +kernel
abbrev cJ9_max_7cf53 : ByteArray := prog_7_method_65_code
def yJ9_max_7cf53 : MethodName := ⟨RJ9, "max", "(II)I"⟩
abbrev cJ9_min_7cf53 : ByteArray := prog_7_method_69_code
def yJ9_min_7cf53 : MethodName := ⟨RJ9, "min", "(II)I"⟩
def RJ7 : String := "java/util/Arrays"
def TJ7 : u_T := fun k => match k with
  | _ => ("", "", "", false)
def tyJ7 : Nat → FieldType := fun k => match k with
  | _ => .int
abbrev wsJ70 : List Cond := u_ws RJ7 TJ7 0
theorem nmJ7 : ∀ a, a < 0 → ∀ b, b < 0 → a ≠ b → (TJ7 a).2.1 ≠ (TJ7 b).2.1 := by decide +kernel
theorem tyJ7_ok : ∀ k, k < 0 → parseFieldDescriptor (TJ7 k).2.2.1 = some (tyJ7 k) := by decide +kernel
abbrev cJ7_fill_53178 : ByteArray := prog_8_method_103_code
def yJ7_fill_53178 : MethodName := ⟨RJ7, "fill", "([II)V"⟩
def RL : String := "DiagramBenchLaw"
abbrev cL_law : ByteArray := code
def yL_law : MethodName := ⟨RL, "law", "([I)Z"⟩
def wsX0_init : List Cond := .code yX0_init cX0_init 1 none :: ([.methodLink RX0 3 objectInit, .instanceMethod objectInit, .code objectInit ⟨#[0xb1]⟩ 1 none, .arrayClass .int, .fieldLink RX0 9 "DiagramBench$Net" "kinds" "[I", .fieldLink RX0 15 "DiagramBench$Net" "operands" "[I", .fieldLink RX0 18 "DiagramBench$Net" "outputGates" "[I", .fieldLink RX0 21 "DiagramBench$Net" "ofGates" "[I", .fieldLink RX0 24 "DiagramBench$Net" "gates" "I", .fieldLink RX0 28 "DiagramBench$Net" "outputs" "I"] ++ wsX00)
def wsX0_gateCount : List Cond := .code yX0_gateCount cX0_gateCount 1 (some .int) :: ([.fieldLink RX0 24 "DiagramBench$Net" "gates" "I"] ++ wsX00)
def wsX0_outputCount : List Cond := .code yX0_outputCount cX0_outputCount 1 (some .int) :: ([.fieldLink RX0 28 "DiagramBench$Net" "outputs" "I"] ++ wsX00)
def wsX0_hasGate : List Cond := .code yX0_hasGate cX0_hasGate 2 (some .boolean) :: ([.fieldLink RX0 24 "DiagramBench$Net" "gates" "I"] ++ wsX00)
def wsX0_hasOutput : List Cond := .code yX0_hasOutput cX0_hasOutput 2 (some .boolean) :: ([.fieldLink RX0 28 "DiagramBench$Net" "outputs" "I"] ++ wsX00)
def wsX0_hasOperands : List Cond := .code yX0_hasOperands cX0_hasOperands 6 (some .boolean) :: ([.methodLink RX0 34 yX0_hasGate, .instanceMethod yX0_hasGate, .selects RX0 yX0_hasGate yX0_hasGate, .initialized RX0, .code yX0_hasGate cX0_hasGate 2 (some .boolean), .fieldLink RX0 24 "DiagramBench$Net" "gates" "I"] ++ wsX00)
def wsX0_addGate : List Cond := .code yX0_addGate cX0_addGate 5 (some .int) :: ([.fieldLink RX0 24 "DiagramBench$Net" "gates" "I", .fieldLink RX0 9 "DiagramBench$Net" "kinds" "[I", .fieldLink RX0 15 "DiagramBench$Net" "operands" "[I"] ++ wsX00)
def wsX0_addOutput : List Cond := .code yX0_addOutput cX0_addOutput 2 (some .int) :: ([.fieldLink RX0 28 "DiagramBench$Net" "outputs" "I", .fieldLink RX0 18 "DiagramBench$Net" "outputGates" "[I"] ++ wsX00)
def wsX0_empty : List Cond := .code yX0_empty cX0_empty 2 (some .int) :: ([.fieldLink RX0 24 "DiagramBench$Net" "gates" "I", .fieldLink RX0 28 "DiagramBench$Net" "outputs" "I"] ++ wsX00)
def wsX0_kindOf : List Cond := .code yX0_kindOf cX0_kindOf 2 (some .int) :: ([.fieldLink RX0 9 "DiagramBench$Net" "kinds" "[I"] ++ wsX00)
def wsX0_operand : List Cond := .code yX0_operand cX0_operand 3 (some .int) :: ([.fieldLink RX0 15 "DiagramBench$Net" "operands" "[I"] ++ wsX00)
def wsX0_gateValue : List Cond := .code yX0_gateValue cX0_gateValue 6 (some .int) :: ([.fieldLink RX0 9 "DiagramBench$Net" "kinds" "[I", .fieldLink RX0 21 "DiagramBench$Net" "ofGates" "[I", .methodLink RX0 42 yX0_operand, .instanceMethod yX0_operand, .selects RX0 yX0_operand yX0_operand, .initialized RX0, .code yX0_operand cX0_operand 3 (some .int), .fieldLink RX0 15 "DiagramBench$Net" "operands" "[I"] ++ wsX00)
def wsX0_outputValue : List Cond := .code yX0_outputValue cX0_outputValue 5 (some .int) :: ([.fieldLink RX0 18 "DiagramBench$Net" "outputGates" "[I", .fieldLink RX0 21 "DiagramBench$Net" "ofGates" "[I", .methodLink RX0 38 yX0_gateValue, .instanceMethod yX0_gateValue, .selects RX0 yX0_gateValue yX0_gateValue, .initialized RX0, .code yX0_gateValue cX0_gateValue 6 (some .int), .fieldLink RX0 9 "DiagramBench$Net" "kinds" "[I", .methodLink RX0 42 yX0_operand, .instanceMethod yX0_operand, .selects RX0 yX0_operand yX0_operand, .code yX0_operand cX0_operand 3 (some .int), .fieldLink RX0 15 "DiagramBench$Net" "operands" "[I"] ++ wsX00)
def wsJ7_fill_53178 : List Cond := .code yJ7_fill_53178 cJ7_fill_53178 4 none :: ([])
def wsX0_noteNeedsOf : List Cond := .code yX0_noteNeedsOf cX0_noteNeedsOf 5 none :: ([.fieldLink RX0 9 "DiagramBench$Net" "kinds" "[I", .methodLink RX0 42 yX0_operand, .instanceMethod yX0_operand, .selects RX0 yX0_operand yX0_operand, .initialized RX0, .code yX0_operand cX0_operand 3 (some .int), .fieldLink RX0 15 "DiagramBench$Net" "operands" "[I"] ++ wsX00)
def wsX0_findNeeds : List Cond := .code yX0_findNeeds cX0_findNeeds 5 (some .int) :: ([.fieldLink RX0 18 "DiagramBench$Net" "outputGates" "[I", .methodLink RX0 48 yJ7_fill_53178, .static yJ7_fill_53178, .initialized RJ7, .code yJ7_fill_53178 cJ7_fill_53178 4 none, .methodLink RX0 54 yX0_noteNeedsOf, .instanceMethod yX0_noteNeedsOf, .selects RX0 yX0_noteNeedsOf yX0_noteNeedsOf, .initialized RX0, .code yX0_noteNeedsOf cX0_noteNeedsOf 5 none, .fieldLink RX0 9 "DiagramBench$Net" "kinds" "[I", .methodLink RX0 42 yX0_operand, .instanceMethod yX0_operand, .selects RX0 yX0_operand yX0_operand, .code yX0_operand cX0_operand 3 (some .int), .fieldLink RX0 15 "DiagramBench$Net" "operands" "[I"] ++ wsX00)
def wsX1_put : List Cond := .code yX1_put cX1_put 3 none :: ([.fieldLink RX1 9 "DiagramBench$Order" "variables" "[I", .fieldLink RX1 15 "DiagramBench$Order" "placesOf" "[I"] ++ wsX10)
def wsX1_meet : List Cond := .code yX1_meet cX1_meet 2 none :: ([.fieldLink RX1 15 "DiagramBench$Order" "placesOf" "[I", .fieldLink RX1 18 "DiagramBench$Order" "met" "I", .methodLink RX1 28 yX1_put, .instanceMethod yX1_put, .selects RX1 yX1_put yX1_put, .initialized RX1, .code yX1_put cX1_put 3 none, .fieldLink RX1 9 "DiagramBench$Order" "variables" "[I"] ++ wsX10)
def wsX0_goInto : List Cond := .code yX0_goInto cX0_goInto 5 none :: ([.fieldLink RX0 21 "DiagramBench$Net" "ofGates" "[I", .fieldLink RX0 9 "DiagramBench$Net" "kinds" "[I", .methodLink RX0 42 yX0_operand, .instanceMethod yX0_operand, .selects RX0 yX0_operand yX0_operand, .initialized RX0, .code yX0_operand cX0_operand 3 (some .int), .fieldLink RX0 15 "DiagramBench$Net" "operands" "[I", .methodLink RX0 62 yX1_meet, .instanceMethod yX1_meet, .selects RX1 yX1_meet yX1_meet, .initialized RX1, .code yX1_meet cX1_meet 2 none, .fieldLink RX1 15 "DiagramBench$Order" "placesOf" "[I", .fieldLink RX1 18 "DiagramBench$Order" "met" "I", .methodLink RX1 28 yX1_put, .instanceMethod yX1_put, .selects RX1 yX1_put yX1_put, .code yX1_put cX1_put 3 none, .fieldLink RX1 9 "DiagramBench$Order" "variables" "[I", .methodLink RX0 58 yX0_goInto, .instanceMethod yX0_goInto, .selects RX0 yX0_goInto yX0_goInto] ++ wsX00 ++ wsX10)
def wsX0_meetVariables_r1 : List Cond := [Cond.fieldLink RX0 21 "DiagramBench$Net" "ofGates" "[I", Cond.fieldLink RX0 28 "DiagramBench$Net" "outputs" "I", Cond.fieldLink RX0 18 "DiagramBench$Net" "outputGates" "[I", Cond.methodLink RX0 48 yJ7_fill_53178, Cond.static yJ7_fill_53178, Cond.initialized RJ7, Cond.code yJ7_fill_53178 cJ7_fill_53178 4 none, Cond.methodLink RX0 58 yX0_goInto, Cond.instanceMethod yX0_goInto, Cond.selects RX0 yX0_goInto yX0_goInto, Cond.initialized RX0, Cond.code yX0_goInto cX0_goInto 5 none, Cond.fieldLink RX0 9 "DiagramBench$Net" "kinds" "[I", Cond.methodLink RX0 42 yX0_operand, Cond.instanceMethod yX0_operand, Cond.selects RX0 yX0_operand yX0_operand, Cond.code yX0_operand cX0_operand 3 (some .int), Cond.fieldLink RX0 15 "DiagramBench$Net" "operands" "[I", Cond.methodLink RX0 62 yX1_meet, Cond.instanceMethod yX1_meet, Cond.selects RX1 yX1_meet yX1_meet, Cond.initialized RX1, Cond.code yX1_meet cX1_meet 2 none, Cond.fieldLink RX1 15 "DiagramBench$Order" "placesOf" "[I"]
def wsX0_meetVariables_r2 : List Cond := [Cond.fieldLink RX1 18 "DiagramBench$Order" "met" "I", Cond.methodLink RX1 28 yX1_put, Cond.instanceMethod yX1_put, Cond.selects RX1 yX1_put yX1_put, Cond.code yX1_put cX1_put 3 none, Cond.fieldLink RX1 9 "DiagramBench$Order" "variables" "[I"]
def wsX0_meetVariables : List Cond := .code yX0_meetVariables cX0_meetVariables 3 none :: ((wsX0_meetVariables_r1 ++ wsX0_meetVariables_r2) ++ wsX00 ++ wsX10)
def wsX1_init : List Cond := .code yX1_init cX1_init 2 none :: ([.methodLink RX1 3 objectInit, .instanceMethod objectInit, .code objectInit ⟨#[0xb1]⟩ 1 none, .arrayClass .int, .fieldLink RX1 9 "DiagramBench$Order" "variables" "[I", .fieldLink RX1 15 "DiagramBench$Order" "placesOf" "[I", .fieldLink RX1 18 "DiagramBench$Order" "met" "I"] ++ wsX10)
def wsX1_variableAt : List Cond := .code yX1_variableAt cX1_variableAt 2 (some .int) :: ([.fieldLink RX1 9 "DiagramBench$Order" "variables" "[I"] ++ wsX10)
def wsX1_placeOf : List Cond := .code yX1_placeOf cX1_placeOf 2 (some .int) :: ([.fieldLink RX1 15 "DiagramBench$Order" "placesOf" "[I"] ++ wsX10)
def wsX1_forget : List Cond := .code yX1_forget cX1_forget 1 none :: ([.fieldLink RX1 15 "DiagramBench$Order" "placesOf" "[I", .fieldLink RX1 18 "DiagramBench$Order" "met" "I", .methodLink RX1 22 yJ7_fill_53178, .static yJ7_fill_53178, .initialized RJ7, .code yJ7_fill_53178 cJ7_fill_53178 4 none] ++ wsX10)
def wsX1_meetOthers : List Cond := .code yX1_meetOthers cX1_meetOthers 3 (some .int) :: ([.fieldLink RX1 18 "DiagramBench$Order" "met" "I", .methodLink RX1 32 yX1_meet, .instanceMethod yX1_meet, .selects RX1 yX1_meet yX1_meet, .initialized RX1, .code yX1_meet cX1_meet 2 none, .fieldLink RX1 15 "DiagramBench$Order" "placesOf" "[I", .methodLink RX1 28 yX1_put, .instanceMethod yX1_put, .selects RX1 yX1_put yX1_put, .code yX1_put cX1_put 3 none, .fieldLink RX1 9 "DiagramBench$Order" "variables" "[I"] ++ wsX10)
def wsX1_moveTo : List Cond := .code yX1_moveTo cX1_moveTo 5 (some .int) :: ([.fieldLink RX1 15 "DiagramBench$Order" "placesOf" "[I", .fieldLink RX1 9 "DiagramBench$Order" "variables" "[I", .methodLink RX1 28 yX1_put, .instanceMethod yX1_put, .selects RX1 yX1_put yX1_put, .initialized RX1, .code yX1_put cX1_put 3 none] ++ wsX10)
def wsX2_enter : List Cond := .code yX2_enter cX2_enter 3 none :: ([.fieldLink RX2 15 "DiagramBench$Pool" "lows" "[I", .fieldLink RX2 18 "DiagramBench$Pool" "highs" "[I", .fieldLink RX2 24 "DiagramBench$Pool" "next" "[I", .fieldLink RX2 27 "DiagramBench$Pool" "rows" "[I", .fieldLink RX2 34 "DiagramBench$Pool" "used" "I"] ++ wsX20)
def wsX2_sweep : List Cond := .code yX2_sweep cX2_sweep 2 none :: ([.fieldLink RX2 27 "DiagramBench$Pool" "rows" "[I", .fieldLink RX2 30 "DiagramBench$Pool" "firstFree" "I", .fieldLink RX2 34 "DiagramBench$Pool" "used" "I", .fieldLink RX2 21 "DiagramBench$Pool" "marks" "[I", .fieldLink RX2 24 "DiagramBench$Pool" "next" "[I", .methodLink RX2 43 yJ7_fill_53178, .static yJ7_fill_53178, .initialized RJ7, .code yJ7_fill_53178 cJ7_fill_53178 4 none, .methodLink RX2 64 yX2_enter, .instanceMethod yX2_enter, .selects RX2 yX2_enter yX2_enter, .initialized RX2, .code yX2_enter cX2_enter 3 none, .fieldLink RX2 15 "DiagramBench$Pool" "lows" "[I", .fieldLink RX2 18 "DiagramBench$Pool" "highs" "[I"] ++ wsX20)
def wsX2_init_r1 : List Cond := [Cond.methodLink RX2 3 objectInit, Cond.instanceMethod objectInit, Cond.code objectInit ⟨#[0xb1]⟩ 1 none, Cond.arrayClass .int, Cond.fieldLink RX2 11 "DiagramBench$Pool" "places" "[I", Cond.fieldLink RX2 15 "DiagramBench$Pool" "lows" "[I", Cond.fieldLink RX2 18 "DiagramBench$Pool" "highs" "[I", Cond.fieldLink RX2 21 "DiagramBench$Pool" "marks" "[I", Cond.fieldLink RX2 24 "DiagramBench$Pool" "next" "[I", Cond.fieldLink RX2 27 "DiagramBench$Pool" "rows" "[I", Cond.fieldLink RX2 30 "DiagramBench$Pool" "firstFree" "I", Cond.fieldLink RX2 34 "DiagramBench$Pool" "used" "I", Cond.fieldLink RX2 37 "DiagramBench$Pool" "most" "I", Cond.methodLink RX2 40 yX2_sweep, Cond.instanceMethod yX2_sweep, Cond.selects RX2 yX2_sweep yX2_sweep, Cond.initialized RX2, Cond.code yX2_sweep cX2_sweep 2 none, Cond.methodLink RX2 43 yJ7_fill_53178, Cond.static yJ7_fill_53178, Cond.initialized RJ7, Cond.code yJ7_fill_53178 cJ7_fill_53178 4 none, Cond.methodLink RX2 64 yX2_enter, Cond.instanceMethod yX2_enter]
def wsX2_init_r2 : List Cond := [Cond.selects RX2 yX2_enter yX2_enter, Cond.code yX2_enter cX2_enter 3 none]
def wsX2_init : List Cond := .code yX2_init cX2_init 1 none :: ((wsX2_init_r1 ++ wsX2_init_r2) ++ wsX20)
def wsX2_limit : List Cond := .code yX2_limit cX2_limit 1 (some .int) :: ([.fieldLink RX2 37 "DiagramBench$Pool" "most" "I"] ++ wsX20)
def wsX2_changeLimit : List Cond := .code yX2_changeLimit cX2_changeLimit 3 (some .int) :: ([.fieldLink RX2 37 "DiagramBench$Pool" "most" "I"] ++ wsX20)
def wsX2_usedCount : List Cond := .code yX2_usedCount cX2_usedCount 1 (some .int) :: ([.fieldLink RX2 34 "DiagramBench$Pool" "used" "I"] ++ wsX20)
def wsX2_placeOf : List Cond := .code yX2_placeOf cX2_placeOf 2 (some .int) :: ([.fieldLink RX2 11 "DiagramBench$Pool" "places" "[I"] ++ wsX20)
def wsX2_unmark : List Cond := .code yX2_unmark cX2_unmark 1 none :: ([.fieldLink RX2 21 "DiagramBench$Pool" "marks" "[I", .methodLink RX2 43 yJ7_fill_53178, .static yJ7_fill_53178, .initialized RJ7, .code yJ7_fill_53178 cJ7_fill_53178 4 none] ++ wsX20)
def wsX2_markWith : List Cond := .code yX2_markWith cX2_markWith 4 none :: ([.fieldLink RX2 21 "DiagramBench$Pool" "marks" "[I", .fieldLink RX2 15 "DiagramBench$Pool" "lows" "[I", .fieldLink RX2 18 "DiagramBench$Pool" "highs" "[I", .methodLink RX2 49 yX2_markWith, .instanceMethod yX2_markWith, .selects RX2 yX2_markWith yX2_markWith, .initialized RX2] ++ wsX20)
def wsX2_mark : List Cond := .code yX2_mark cX2_mark 2 none :: ([.methodLink RX2 49 yX2_markWith, .instanceMethod yX2_markWith, .selects RX2 yX2_markWith yX2_markWith, .initialized RX2, .code yX2_markWith cX2_markWith 4 none, .fieldLink RX2 21 "DiagramBench$Pool" "marks" "[I", .fieldLink RX2 15 "DiagramBench$Pool" "lows" "[I", .fieldLink RX2 18 "DiagramBench$Pool" "highs" "[I"] ++ wsX20)
def wsX2_markedWith : List Cond := .code yX2_markedWith cX2_markedWith 4 (some .int) :: ([.fieldLink RX2 21 "DiagramBench$Pool" "marks" "[I"] ++ wsX20)
def wsX2_nodeCount : List Cond := .code yX2_nodeCount cX2_nodeCount 2 (some .int) :: ([.methodLink RX2 53 yX2_unmark, .instanceMethod yX2_unmark, .selects RX2 yX2_unmark yX2_unmark, .initialized RX2, .code yX2_unmark cX2_unmark 1 none, .fieldLink RX2 21 "DiagramBench$Pool" "marks" "[I", .methodLink RX2 43 yJ7_fill_53178, .static yJ7_fill_53178, .initialized RJ7, .code yJ7_fill_53178 cJ7_fill_53178 4 none, .methodLink RX2 56 yX2_mark, .instanceMethod yX2_mark, .selects RX2 yX2_mark yX2_mark, .code yX2_mark cX2_mark 2 none, .methodLink RX2 49 yX2_markWith, .instanceMethod yX2_markWith, .selects RX2 yX2_markWith yX2_markWith, .code yX2_markWith cX2_markWith 4 none, .fieldLink RX2 15 "DiagramBench$Pool" "lows" "[I", .fieldLink RX2 18 "DiagramBench$Pool" "highs" "[I", .methodLink RX2 60 yX2_markedWith, .instanceMethod yX2_markedWith, .selects RX2 yX2_markedWith yX2_markedWith, .code yX2_markedWith cX2_markedWith 4 (some .int)] ++ wsX20)
def wsX2_nodeCountAt : List Cond := .code yX2_nodeCountAt cX2_nodeCountAt 5 (some .int) :: ([.fieldLink RX2 21 "DiagramBench$Pool" "marks" "[I", .fieldLink RX2 11 "DiagramBench$Pool" "places" "[I", .methodLink RX2 53 yX2_unmark, .instanceMethod yX2_unmark, .selects RX2 yX2_unmark yX2_unmark, .initialized RX2, .code yX2_unmark cX2_unmark 1 none, .methodLink RX2 43 yJ7_fill_53178, .static yJ7_fill_53178, .initialized RJ7, .code yJ7_fill_53178 cJ7_fill_53178 4 none, .methodLink RX2 56 yX2_mark, .instanceMethod yX2_mark, .selects RX2 yX2_mark yX2_mark, .code yX2_mark cX2_mark 2 none, .methodLink RX2 49 yX2_markWith, .instanceMethod yX2_markWith, .selects RX2 yX2_markWith yX2_markWith, .code yX2_markWith cX2_markWith 4 none, .fieldLink RX2 15 "DiagramBench$Pool" "lows" "[I", .fieldLink RX2 18 "DiagramBench$Pool" "highs" "[I"] ++ wsX20)
def wsX2_commonCount : List Cond := .code yX2_commonCount cX2_commonCount 3 (some .int) :: ([.methodLink RX2 53 yX2_unmark, .instanceMethod yX2_unmark, .selects RX2 yX2_unmark yX2_unmark, .initialized RX2, .code yX2_unmark cX2_unmark 1 none, .fieldLink RX2 21 "DiagramBench$Pool" "marks" "[I", .methodLink RX2 43 yJ7_fill_53178, .static yJ7_fill_53178, .initialized RJ7, .code yJ7_fill_53178 cJ7_fill_53178 4 none, .methodLink RX2 49 yX2_markWith, .instanceMethod yX2_markWith, .selects RX2 yX2_markWith yX2_markWith, .code yX2_markWith cX2_markWith 4 none, .fieldLink RX2 15 "DiagramBench$Pool" "lows" "[I", .fieldLink RX2 18 "DiagramBench$Pool" "highs" "[I", .methodLink RX2 60 yX2_markedWith, .instanceMethod yX2_markedWith, .selects RX2 yX2_markedWith yX2_markedWith, .code yX2_markedWith cX2_markedWith 4 (some .int)] ++ wsX20)
def wsX2_nodeFor : List Cond := .code yX2_nodeFor cX2_nodeFor 6 (some .int) :: ([.fieldLink RX2 27 "DiagramBench$Pool" "rows" "[I", .fieldLink RX2 11 "DiagramBench$Pool" "places" "[I", .fieldLink RX2 15 "DiagramBench$Pool" "lows" "[I", .fieldLink RX2 18 "DiagramBench$Pool" "highs" "[I", .fieldLink RX2 24 "DiagramBench$Pool" "next" "[I", .fieldLink RX2 30 "DiagramBench$Pool" "firstFree" "I", .fieldLink RX2 34 "DiagramBench$Pool" "used" "I", .fieldLink RX2 37 "DiagramBench$Pool" "most" "I", .methodLink RX2 64 yX2_enter, .instanceMethod yX2_enter, .selects RX2 yX2_enter yX2_enter, .initialized RX2, .code yX2_enter cX2_enter 3 none] ++ wsX20)
def wsX2_makeVariable : List Cond := .code yX2_makeVariable cX2_makeVariable 2 (some .int) :: ([.methodLink RX2 67 yX2_nodeFor, .instanceMethod yX2_nodeFor, .selects RX2 yX2_nodeFor yX2_nodeFor, .initialized RX2, .code yX2_nodeFor cX2_nodeFor 6 (some .int), .fieldLink RX2 27 "DiagramBench$Pool" "rows" "[I", .fieldLink RX2 11 "DiagramBench$Pool" "places" "[I", .fieldLink RX2 15 "DiagramBench$Pool" "lows" "[I", .fieldLink RX2 18 "DiagramBench$Pool" "highs" "[I", .fieldLink RX2 24 "DiagramBench$Pool" "next" "[I", .fieldLink RX2 30 "DiagramBench$Pool" "firstFree" "I", .fieldLink RX2 34 "DiagramBench$Pool" "used" "I", .fieldLink RX2 37 "DiagramBench$Pool" "most" "I", .methodLink RX2 64 yX2_enter, .instanceMethod yX2_enter, .selects RX2 yX2_enter yX2_enter, .code yX2_enter cX2_enter 3 none] ++ wsX20)
def wsX2_knowing : List Cond := .code yX2_knowing cX2_knowing 5 (some .int) :: ([])
def wsX2_lowAt : List Cond := .code yX2_lowAt cX2_lowAt 3 (some .int) :: ([.fieldLink RX2 11 "DiagramBench$Pool" "places" "[I", .fieldLink RX2 15 "DiagramBench$Pool" "lows" "[I"] ++ wsX20)
def wsX2_highAt : List Cond := .code yX2_highAt cX2_highAt 3 (some .int) :: ([.fieldLink RX2 11 "DiagramBench$Pool" "places" "[I", .fieldLink RX2 18 "DiagramBench$Pool" "highs" "[I"] ++ wsX20)
def wsX2_makeFrom_r1 : List Cond := [Cond.fieldLink RX2 11 "DiagramBench$Pool" "places" "[I", Cond.methodLink RX2 79 Lib.Math.min.name, Cond.static Lib.Math.min.name, Cond.initialized "java/lang/Math", Cond.code Lib.Math.min.name Lib.Math.min.code 2 (some .int), Cond.methodLink RX2 75 yX2_knowing, Cond.static yX2_knowing, Cond.initialized RX2, Cond.code yX2_knowing cX2_knowing 5 (some .int), Cond.methodLink RX2 85 yX2_lowAt, Cond.instanceMethod yX2_lowAt, Cond.selects RX2 yX2_lowAt yX2_lowAt, Cond.code yX2_lowAt cX2_lowAt 3 (some .int), Cond.fieldLink RX2 15 "DiagramBench$Pool" "lows" "[I", Cond.methodLink RX2 71 yX2_makeFrom, Cond.instanceMethod yX2_makeFrom, Cond.selects RX2 yX2_makeFrom yX2_makeFrom, Cond.methodLink RX2 88 yX2_highAt, Cond.instanceMethod yX2_highAt, Cond.selects RX2 yX2_highAt yX2_highAt, Cond.code yX2_highAt cX2_highAt 3 (some .int), Cond.fieldLink RX2 18 "DiagramBench$Pool" "highs" "[I", Cond.methodLink RX2 67 yX2_nodeFor, Cond.instanceMethod yX2_nodeFor]
def wsX2_makeFrom_r2 : List Cond := [Cond.selects RX2 yX2_nodeFor yX2_nodeFor, Cond.code yX2_nodeFor cX2_nodeFor 6 (some .int), Cond.fieldLink RX2 27 "DiagramBench$Pool" "rows" "[I", Cond.fieldLink RX2 24 "DiagramBench$Pool" "next" "[I", Cond.fieldLink RX2 30 "DiagramBench$Pool" "firstFree" "I", Cond.fieldLink RX2 34 "DiagramBench$Pool" "used" "I", Cond.fieldLink RX2 37 "DiagramBench$Pool" "most" "I", Cond.methodLink RX2 64 yX2_enter, Cond.instanceMethod yX2_enter, Cond.selects RX2 yX2_enter yX2_enter, Cond.code yX2_enter cX2_enter 3 none]
def wsX2_makeFrom : List Cond := .code yX2_makeFrom cX2_makeFrom 10 (some .int) :: ((wsX2_makeFrom_r1 ++ wsX2_makeFrom_r2) ++ wsX20)
def wsX2_make_r1 : List Cond := [Cond.methodLink RX2 71 yX2_makeFrom, Cond.instanceMethod yX2_makeFrom, Cond.selects RX2 yX2_makeFrom yX2_makeFrom, Cond.initialized RX2, Cond.code yX2_makeFrom cX2_makeFrom 10 (some .int), Cond.fieldLink RX2 11 "DiagramBench$Pool" "places" "[I", Cond.methodLink RX2 79 Lib.Math.min.name, Cond.static Lib.Math.min.name, Cond.initialized "java/lang/Math", Cond.code Lib.Math.min.name Lib.Math.min.code 2 (some .int), Cond.methodLink RX2 75 yX2_knowing, Cond.static yX2_knowing, Cond.code yX2_knowing cX2_knowing 5 (some .int), Cond.methodLink RX2 85 yX2_lowAt, Cond.instanceMethod yX2_lowAt, Cond.selects RX2 yX2_lowAt yX2_lowAt, Cond.code yX2_lowAt cX2_lowAt 3 (some .int), Cond.fieldLink RX2 15 "DiagramBench$Pool" "lows" "[I", Cond.methodLink RX2 88 yX2_highAt, Cond.instanceMethod yX2_highAt, Cond.selects RX2 yX2_highAt yX2_highAt, Cond.code yX2_highAt cX2_highAt 3 (some .int), Cond.fieldLink RX2 18 "DiagramBench$Pool" "highs" "[I", Cond.methodLink RX2 67 yX2_nodeFor]
def wsX2_make_r2 : List Cond := [Cond.instanceMethod yX2_nodeFor, Cond.selects RX2 yX2_nodeFor yX2_nodeFor, Cond.code yX2_nodeFor cX2_nodeFor 6 (some .int), Cond.fieldLink RX2 27 "DiagramBench$Pool" "rows" "[I", Cond.fieldLink RX2 24 "DiagramBench$Pool" "next" "[I", Cond.fieldLink RX2 30 "DiagramBench$Pool" "firstFree" "I", Cond.fieldLink RX2 34 "DiagramBench$Pool" "used" "I", Cond.fieldLink RX2 37 "DiagramBench$Pool" "most" "I", Cond.methodLink RX2 64 yX2_enter, Cond.instanceMethod yX2_enter, Cond.selects RX2 yX2_enter yX2_enter, Cond.code yX2_enter cX2_enter 3 none]
def wsX2_make : List Cond := .code yX2_make cX2_make 5 (some .int) :: ((wsX2_make_r1 ++ wsX2_make_r2) ++ wsX20)
def wsX2_fixFrom : List Cond := .code yX2_fixFrom cX2_fixFrom 7 (some .int) :: ([.fieldLink RX2 11 "DiagramBench$Pool" "places" "[I", .fieldLink RX2 18 "DiagramBench$Pool" "highs" "[I", .fieldLink RX2 15 "DiagramBench$Pool" "lows" "[I", .methodLink RX2 91 yX2_fixFrom, .instanceMethod yX2_fixFrom, .selects RX2 yX2_fixFrom yX2_fixFrom, .initialized RX2, .methodLink RX2 67 yX2_nodeFor, .instanceMethod yX2_nodeFor, .selects RX2 yX2_nodeFor yX2_nodeFor, .code yX2_nodeFor cX2_nodeFor 6 (some .int), .fieldLink RX2 27 "DiagramBench$Pool" "rows" "[I", .fieldLink RX2 24 "DiagramBench$Pool" "next" "[I", .fieldLink RX2 30 "DiagramBench$Pool" "firstFree" "I", .fieldLink RX2 34 "DiagramBench$Pool" "used" "I", .fieldLink RX2 37 "DiagramBench$Pool" "most" "I", .methodLink RX2 64 yX2_enter, .instanceMethod yX2_enter, .selects RX2 yX2_enter yX2_enter, .code yX2_enter cX2_enter 3 none] ++ wsX20)
def wsX2_makeFixed : List Cond := .code yX2_makeFixed cX2_makeFixed 4 (some .int) :: ([.methodLink RX2 91 yX2_fixFrom, .instanceMethod yX2_fixFrom, .selects RX2 yX2_fixFrom yX2_fixFrom, .initialized RX2, .code yX2_fixFrom cX2_fixFrom 7 (some .int), .fieldLink RX2 11 "DiagramBench$Pool" "places" "[I", .fieldLink RX2 18 "DiagramBench$Pool" "highs" "[I", .fieldLink RX2 15 "DiagramBench$Pool" "lows" "[I", .methodLink RX2 67 yX2_nodeFor, .instanceMethod yX2_nodeFor, .selects RX2 yX2_nodeFor yX2_nodeFor, .code yX2_nodeFor cX2_nodeFor 6 (some .int), .fieldLink RX2 27 "DiagramBench$Pool" "rows" "[I", .fieldLink RX2 24 "DiagramBench$Pool" "next" "[I", .fieldLink RX2 30 "DiagramBench$Pool" "firstFree" "I", .fieldLink RX2 34 "DiagramBench$Pool" "used" "I", .fieldLink RX2 37 "DiagramBench$Pool" "most" "I", .methodLink RX2 64 yX2_enter, .instanceMethod yX2_enter, .selects RX2 yX2_enter yX2_enter, .code yX2_enter cX2_enter 3 none] ++ wsX20)
def wsX2_valueFor : List Cond := .code yX2_valueFor cX2_valueFor 7 (some .int) :: ([.fieldLink RX2 11 "DiagramBench$Pool" "places" "[I", .fieldLink RX2 18 "DiagramBench$Pool" "highs" "[I", .fieldLink RX2 15 "DiagramBench$Pool" "lows" "[I", .methodLink RX2 95 yX1_variableAt, .instanceMethod yX1_variableAt, .selects RX1 yX1_variableAt yX1_variableAt, .initialized RX1, .code yX1_variableAt cX1_variableAt 2 (some .int), .fieldLink RX1 9 "DiagramBench$Order" "variables" "[I"] ++ wsX20 ++ wsX10)
def wsX2_leastFor : List Cond := .code yX2_leastFor cX2_leastFor 7 (some .int) :: ([.fieldLink RX2 15 "DiagramBench$Pool" "lows" "[I", .fieldLink RX2 11 "DiagramBench$Pool" "places" "[I", .fieldLink RX2 18 "DiagramBench$Pool" "highs" "[I", .methodLink RX2 95 yX1_variableAt, .instanceMethod yX1_variableAt, .selects RX1 yX1_variableAt yX1_variableAt, .initialized RX1, .code yX1_variableAt cX1_variableAt 2 (some .int), .fieldLink RX1 9 "DiagramBench$Order" "variables" "[I"] ++ wsX20 ++ wsX10)
def wsX2_pathsFrom : List Cond := .code yX2_pathsFrom cX2_pathsFrom 4 (some .int) :: ([.fieldLink RX2 15 "DiagramBench$Pool" "lows" "[I", .fieldLink RX2 18 "DiagramBench$Pool" "highs" "[I", .methodLink RX2 100 yX2_pathsFrom, .instanceMethod yX2_pathsFrom, .selects RX2 yX2_pathsFrom yX2_pathsFrom, .initialized RX2] ++ wsX20)
def wsX2_pathCount : List Cond := .code yX2_pathCount cX2_pathCount 3 (some .int) :: ([.methodLink RX2 100 yX2_pathsFrom, .instanceMethod yX2_pathsFrom, .selects RX2 yX2_pathsFrom yX2_pathsFrom, .initialized RX2, .code yX2_pathsFrom cX2_pathsFrom 4 (some .int), .fieldLink RX2 15 "DiagramBench$Pool" "lows" "[I", .fieldLink RX2 18 "DiagramBench$Pool" "highs" "[I"] ++ wsX20)
def wsX3_init_r1 : List Cond := [Cond.methodLink RX3 3 objectInit, Cond.instanceMethod objectInit, Cond.code objectInit ⟨#[0xb1]⟩ 1 none, Cond.classLink RX3 9 RX0, Cond.fieldLink RX3 11 "DiagramBench" "nets" "[LDiagramBench$Net;", Cond.classLink RX3 15 RX1, Cond.instantiable RX1 3, Cond.initialized RX1, Cond.fieldLink RX3 18 "DiagramBench" "places" "LDiagramBench$Order;", Cond.classLink RX3 22 RX2, Cond.instantiable RX2 9, Cond.initialized RX2, Cond.fieldLink RX3 25 "DiagramBench" "pool" "LDiagramBench$Pool;", Cond.arrayClass .int, Cond.fieldLink RX3 29 "DiagramBench" "held" "[I", Cond.fieldLink RX3 33 "DiagramBench" "ofGate" "[I", Cond.fieldLink RX3 36 "DiagramBench" "lastNeed" "[I", Cond.fieldLink RX3 39 "DiagramBench" "kept" "[I", Cond.fieldLink RX3 42 "DiagramBench" "keptCount" "I", Cond.fieldLink RX3 46 "DiagramBench" "mostInUse" "I", Cond.fieldLink RX3 49 "DiagramBench" "partedOutput" "I", Cond.fieldLink RX3 52 "DiagramBench" "partedAssignment" "I", Cond.instantiable RX0 6, Cond.initialized RX0]
def wsX3_init_r2 : List Cond := [Cond.methodLink RX3 17 yX1_init, Cond.instanceMethod yX1_init, Cond.code yX1_init cX1_init 2 none, Cond.methodLink RX1 3 objectInit, Cond.fieldLink RX1 9 "DiagramBench$Order" "variables" "[I", Cond.fieldLink RX1 15 "DiagramBench$Order" "placesOf" "[I", Cond.fieldLink RX1 18 "DiagramBench$Order" "met" "I", Cond.methodLink RX3 24 yX2_init, Cond.instanceMethod yX2_init, Cond.code yX2_init cX2_init 1 none, Cond.methodLink RX2 3 objectInit, Cond.fieldLink RX2 11 "DiagramBench$Pool" "places" "[I", Cond.fieldLink RX2 15 "DiagramBench$Pool" "lows" "[I", Cond.fieldLink RX2 18 "DiagramBench$Pool" "highs" "[I", Cond.fieldLink RX2 21 "DiagramBench$Pool" "marks" "[I", Cond.fieldLink RX2 24 "DiagramBench$Pool" "next" "[I", Cond.fieldLink RX2 27 "DiagramBench$Pool" "rows" "[I", Cond.fieldLink RX2 30 "DiagramBench$Pool" "firstFree" "I", Cond.fieldLink RX2 34 "DiagramBench$Pool" "used" "I", Cond.fieldLink RX2 37 "DiagramBench$Pool" "most" "I", Cond.methodLink RX2 40 yX2_sweep, Cond.instanceMethod yX2_sweep, Cond.selects RX2 yX2_sweep yX2_sweep, Cond.code yX2_sweep cX2_sweep 2 none]
def wsX3_init_r3 : List Cond := [Cond.methodLink RX2 43 yJ7_fill_53178, Cond.static yJ7_fill_53178, Cond.initialized RJ7, Cond.code yJ7_fill_53178 cJ7_fill_53178 4 none, Cond.methodLink RX2 64 yX2_enter, Cond.instanceMethod yX2_enter, Cond.selects RX2 yX2_enter yX2_enter, Cond.code yX2_enter cX2_enter 3 none, Cond.methodLink RX3 55 yX0_init, Cond.instanceMethod yX0_init, Cond.code yX0_init cX0_init 1 none, Cond.methodLink RX0 3 objectInit, Cond.fieldLink RX0 9 "DiagramBench$Net" "kinds" "[I", Cond.fieldLink RX0 15 "DiagramBench$Net" "operands" "[I", Cond.fieldLink RX0 18 "DiagramBench$Net" "outputGates" "[I", Cond.fieldLink RX0 21 "DiagramBench$Net" "ofGates" "[I", Cond.fieldLink RX0 24 "DiagramBench$Net" "gates" "I", Cond.fieldLink RX0 28 "DiagramBench$Net" "outputs" "I", Cond.methodLink RX3 56 yJ7_fill_53178]
def wsX3_init : List Cond := .code yX3_init cX3_init 2 none :: ((wsX3_init_r1 ++ (wsX3_init_r2 ++ wsX3_init_r3)) ++ wsX30 ++ wsX10 ++ wsX20 ++ wsX00)
def wsX3_isNet : List Cond := .code yX3_isNet cX3_isNet 1 (some .boolean) :: ([])
def wsX3_isVariable : List Cond := .code yX3_isVariable cX3_isVariable 1 (some .boolean) :: ([])
def wsX3_gate : List Cond := .code yX3_gate cX3_gate 6 (some .int) :: ([.fieldLink RX3 11 "DiagramBench" "nets" "[LDiagramBench$Net;", .methodLink RX3 62 yX3_isNet, .static yX3_isNet, .initialized RX3, .code yX3_isNet cX3_isNet 1 (some .boolean), .methodLink RX3 66 yX0_hasOperands, .instanceMethod yX0_hasOperands, .selects RX0 yX0_hasOperands yX0_hasOperands, .initialized RX0, .code yX0_hasOperands cX0_hasOperands 6 (some .boolean), .methodLink RX0 34 yX0_hasGate, .instanceMethod yX0_hasGate, .selects RX0 yX0_hasGate yX0_hasGate, .code yX0_hasGate cX0_hasGate 2 (some .boolean), .fieldLink RX0 24 "DiagramBench$Net" "gates" "I", .methodLink RX3 70 yX3_isVariable, .static yX3_isVariable, .code yX3_isVariable cX3_isVariable 1 (some .boolean), .methodLink RX3 73 yX0_addGate, .instanceMethod yX0_addGate, .selects RX0 yX0_addGate yX0_addGate, .code yX0_addGate cX0_addGate 5 (some .int), .fieldLink RX0 9 "DiagramBench$Net" "kinds" "[I", .fieldLink RX0 15 "DiagramBench$Net" "operands" "[I"] ++ wsX30 ++ wsX00)
def wsX3_output : List Cond := .code yX3_output cX3_output 3 (some .int) :: ([.fieldLink RX3 11 "DiagramBench" "nets" "[LDiagramBench$Net;", .methodLink RX3 62 yX3_isNet, .static yX3_isNet, .initialized RX3, .code yX3_isNet cX3_isNet 1 (some .boolean), .methodLink RX3 77 yX0_hasGate, .instanceMethod yX0_hasGate, .selects RX0 yX0_hasGate yX0_hasGate, .initialized RX0, .code yX0_hasGate cX0_hasGate 2 (some .boolean), .fieldLink RX0 24 "DiagramBench$Net" "gates" "I", .methodLink RX3 80 yX0_addOutput, .instanceMethod yX0_addOutput, .selects RX0 yX0_addOutput yX0_addOutput, .code yX0_addOutput cX0_addOutput 2 (some .int), .fieldLink RX0 28 "DiagramBench$Net" "outputs" "I", .fieldLink RX0 18 "DiagramBench$Net" "outputGates" "[I"] ++ wsX30 ++ wsX00)
def wsX3_clear : List Cond := .code yX3_clear cX3_clear 2 (some .int) :: ([.fieldLink RX3 11 "DiagramBench" "nets" "[LDiagramBench$Net;", .methodLink RX3 62 yX3_isNet, .static yX3_isNet, .initialized RX3, .code yX3_isNet cX3_isNet 1 (some .boolean), .methodLink RX3 84 yX0_empty, .instanceMethod yX0_empty, .selects RX0 yX0_empty yX0_empty, .initialized RX0, .code yX0_empty cX0_empty 2 (some .int), .fieldLink RX0 24 "DiagramBench$Net" "gates" "I", .fieldLink RX0 28 "DiagramBench$Net" "outputs" "I"] ++ wsX30 ++ wsX00)
def wsX3_isAssignment : List Cond := .code yX3_isAssignment cX3_isAssignment 1 (some .boolean) :: ([])
def wsX3_gives_r1 : List Cond := [Cond.fieldLink RX3 11 "DiagramBench" "nets" "[LDiagramBench$Net;", Cond.methodLink RX3 62 yX3_isNet, Cond.static yX3_isNet, Cond.initialized RX3, Cond.code yX3_isNet cX3_isNet 1 (some .boolean), Cond.methodLink RX3 88 yX0_hasOutput, Cond.instanceMethod yX0_hasOutput, Cond.selects RX0 yX0_hasOutput yX0_hasOutput, Cond.initialized RX0, Cond.code yX0_hasOutput cX0_hasOutput 2 (some .boolean), Cond.fieldLink RX0 28 "DiagramBench$Net" "outputs" "I", Cond.methodLink RX3 91 yX3_isAssignment, Cond.static yX3_isAssignment, Cond.code yX3_isAssignment cX3_isAssignment 1 (some .boolean), Cond.methodLink RX3 94 yX0_outputValue, Cond.instanceMethod yX0_outputValue, Cond.selects RX0 yX0_outputValue yX0_outputValue, Cond.code yX0_outputValue cX0_outputValue 5 (some .int), Cond.fieldLink RX0 18 "DiagramBench$Net" "outputGates" "[I", Cond.fieldLink RX0 21 "DiagramBench$Net" "ofGates" "[I", Cond.methodLink RX0 38 yX0_gateValue, Cond.instanceMethod yX0_gateValue, Cond.selects RX0 yX0_gateValue yX0_gateValue, Cond.code yX0_gateValue cX0_gateValue 6 (some .int)]
def wsX3_gives_r2 : List Cond := [Cond.fieldLink RX0 9 "DiagramBench$Net" "kinds" "[I", Cond.methodLink RX0 42 yX0_operand, Cond.instanceMethod yX0_operand, Cond.selects RX0 yX0_operand yX0_operand, Cond.code yX0_operand cX0_operand 3 (some .int), Cond.fieldLink RX0 15 "DiagramBench$Net" "operands" "[I"]
def wsX3_gives : List Cond := .code yX3_gives cX3_gives 4 (some .int) :: ((wsX3_gives_r1 ++ wsX3_gives_r2) ++ wsX30 ++ wsX00)
def wsX3_heldCount : List Cond := .code yX3_heldCount cX3_heldCount 3 (some .int) :: ([.fieldLink RX3 29 "DiagramBench" "held" "[I"] ++ wsX30)
def wsX3_order_r1 : List Cond := [Cond.fieldLink RX3 18 "DiagramBench" "places" "LDiagramBench$Order;", Cond.fieldLink RX3 11 "DiagramBench" "nets" "[LDiagramBench$Net;", Cond.methodLink RX3 62 yX3_isNet, Cond.static yX3_isNet, Cond.initialized RX3, Cond.code yX3_isNet cX3_isNet 1 (some .boolean), Cond.methodLink RX3 98 yX3_heldCount, Cond.instanceMethod yX3_heldCount, Cond.selects RX3 yX3_heldCount yX3_heldCount, Cond.code yX3_heldCount cX3_heldCount 3 (some .int), Cond.fieldLink RX3 29 "DiagramBench" "held" "[I", Cond.methodLink RX3 101 yX1_forget, Cond.instanceMethod yX1_forget, Cond.selects RX1 yX1_forget yX1_forget, Cond.initialized RX1, Cond.code yX1_forget cX1_forget 1 none, Cond.fieldLink RX1 15 "DiagramBench$Order" "placesOf" "[I", Cond.fieldLink RX1 18 "DiagramBench$Order" "met" "I", Cond.methodLink RX1 22 yJ7_fill_53178, Cond.static yJ7_fill_53178, Cond.initialized RJ7, Cond.code yJ7_fill_53178 cJ7_fill_53178 4 none, Cond.methodLink RX3 104 yX0_meetVariables, Cond.instanceMethod yX0_meetVariables]
def wsX3_order_r2 : List Cond := [Cond.selects RX0 yX0_meetVariables yX0_meetVariables, Cond.initialized RX0, Cond.code yX0_meetVariables cX0_meetVariables 3 none, Cond.fieldLink RX0 21 "DiagramBench$Net" "ofGates" "[I", Cond.fieldLink RX0 28 "DiagramBench$Net" "outputs" "I", Cond.fieldLink RX0 18 "DiagramBench$Net" "outputGates" "[I", Cond.methodLink RX0 48 yJ7_fill_53178, Cond.methodLink RX0 58 yX0_goInto, Cond.instanceMethod yX0_goInto, Cond.selects RX0 yX0_goInto yX0_goInto, Cond.code yX0_goInto cX0_goInto 5 none, Cond.fieldLink RX0 9 "DiagramBench$Net" "kinds" "[I", Cond.methodLink RX0 42 yX0_operand, Cond.instanceMethod yX0_operand, Cond.selects RX0 yX0_operand yX0_operand, Cond.code yX0_operand cX0_operand 3 (some .int), Cond.fieldLink RX0 15 "DiagramBench$Net" "operands" "[I", Cond.methodLink RX0 62 yX1_meet, Cond.instanceMethod yX1_meet, Cond.selects RX1 yX1_meet yX1_meet, Cond.code yX1_meet cX1_meet 2 none, Cond.methodLink RX1 28 yX1_put, Cond.instanceMethod yX1_put, Cond.selects RX1 yX1_put yX1_put]
def wsX3_order_r3 : List Cond := [Cond.code yX1_put cX1_put 3 none, Cond.fieldLink RX1 9 "DiagramBench$Order" "variables" "[I", Cond.methodLink RX3 108 yX1_meetOthers, Cond.instanceMethod yX1_meetOthers, Cond.selects RX1 yX1_meetOthers yX1_meetOthers, Cond.code yX1_meetOthers cX1_meetOthers 3 (some .int), Cond.methodLink RX1 32 yX1_meet]
def wsX3_order : List Cond := .code yX3_order cX3_order 2 (some .int) :: ((wsX3_order_r1 ++ (wsX3_order_r2 ++ wsX3_order_r3)) ++ wsX30 ++ wsX10 ++ wsX00)
def wsX3_move : List Cond := .code yX3_move cX3_move 3 (some .int) :: ([.fieldLink RX3 18 "DiagramBench" "places" "LDiagramBench$Order;", .methodLink RX3 70 yX3_isVariable, .static yX3_isVariable, .initialized RX3, .code yX3_isVariable cX3_isVariable 1 (some .boolean), .methodLink RX3 98 yX3_heldCount, .instanceMethod yX3_heldCount, .selects RX3 yX3_heldCount yX3_heldCount, .code yX3_heldCount cX3_heldCount 3 (some .int), .fieldLink RX3 29 "DiagramBench" "held" "[I", .methodLink RX3 111 yX1_moveTo, .instanceMethod yX1_moveTo, .selects RX1 yX1_moveTo yX1_moveTo, .initialized RX1, .code yX1_moveTo cX1_moveTo 5 (some .int), .fieldLink RX1 15 "DiagramBench$Order" "placesOf" "[I", .fieldLink RX1 9 "DiagramBench$Order" "variables" "[I", .methodLink RX1 28 yX1_put, .instanceMethod yX1_put, .selects RX1 yX1_put yX1_put, .code yX1_put cX1_put 3 none] ++ wsX30 ++ wsX10)
def wsX3_at : List Cond := .code yX3_at cX3_at 2 (some .int) :: ([.fieldLink RX3 18 "DiagramBench" "places" "LDiagramBench$Order;", .methodLink RX3 70 yX3_isVariable, .static yX3_isVariable, .initialized RX3, .code yX3_isVariable cX3_isVariable 1 (some .boolean), .methodLink RX3 114 yX1_variableAt, .instanceMethod yX1_variableAt, .selects RX1 yX1_variableAt yX1_variableAt, .initialized RX1, .code yX1_variableAt cX1_variableAt 2 (some .int), .fieldLink RX1 9 "DiagramBench$Order" "variables" "[I"] ++ wsX30 ++ wsX10)
def wsX3_collect_r1 : List Cond := [Cond.fieldLink RX3 25 "DiagramBench" "pool" "LDiagramBench$Pool;", Cond.fieldLink RX3 29 "DiagramBench" "held" "[I", Cond.fieldLink RX3 33 "DiagramBench" "ofGate" "[I", Cond.fieldLink RX3 42 "DiagramBench" "keptCount" "I", Cond.fieldLink RX3 39 "DiagramBench" "kept" "[I", Cond.methodLink RX3 217 yX2_unmark, Cond.instanceMethod yX2_unmark, Cond.selects RX2 yX2_unmark yX2_unmark, Cond.initialized RX2, Cond.code yX2_unmark cX2_unmark 1 none, Cond.fieldLink RX2 21 "DiagramBench$Pool" "marks" "[I", Cond.methodLink RX2 43 yJ7_fill_53178, Cond.static yJ7_fill_53178, Cond.initialized RJ7, Cond.code yJ7_fill_53178 cJ7_fill_53178 4 none, Cond.methodLink RX3 220 yX2_mark, Cond.instanceMethod yX2_mark, Cond.selects RX2 yX2_mark yX2_mark, Cond.code yX2_mark cX2_mark 2 none, Cond.methodLink RX2 49 yX2_markWith, Cond.instanceMethod yX2_markWith, Cond.selects RX2 yX2_markWith yX2_markWith, Cond.code yX2_markWith cX2_markWith 4 none, Cond.fieldLink RX2 15 "DiagramBench$Pool" "lows" "[I"]
def wsX3_collect_r2 : List Cond := [Cond.fieldLink RX2 18 "DiagramBench$Pool" "highs" "[I", Cond.methodLink RX3 224 yX2_sweep, Cond.instanceMethod yX2_sweep, Cond.selects RX2 yX2_sweep yX2_sweep, Cond.code yX2_sweep cX2_sweep 2 none, Cond.fieldLink RX2 27 "DiagramBench$Pool" "rows" "[I", Cond.fieldLink RX2 30 "DiagramBench$Pool" "firstFree" "I", Cond.fieldLink RX2 34 "DiagramBench$Pool" "used" "I", Cond.fieldLink RX2 24 "DiagramBench$Pool" "next" "[I", Cond.methodLink RX2 64 yX2_enter, Cond.instanceMethod yX2_enter, Cond.selects RX2 yX2_enter yX2_enter, Cond.code yX2_enter cX2_enter 3 none]
def wsX3_collect : List Cond := .code yX3_collect cX3_collect 2 none :: ((wsX3_collect_r1 ++ wsX3_collect_r2) ++ wsX30 ++ wsX20)
def wsX3_inUse_r1 : List Cond := [Cond.fieldLink RX3 25 "DiagramBench" "pool" "LDiagramBench$Pool;", Cond.methodLink RX3 155 yX3_collect, Cond.instanceMethod yX3_collect, Cond.selects RX3 yX3_collect yX3_collect, Cond.initialized RX3, Cond.code yX3_collect cX3_collect 2 none, Cond.fieldLink RX3 29 "DiagramBench" "held" "[I", Cond.fieldLink RX3 33 "DiagramBench" "ofGate" "[I", Cond.fieldLink RX3 42 "DiagramBench" "keptCount" "I", Cond.fieldLink RX3 39 "DiagramBench" "kept" "[I", Cond.methodLink RX3 217 yX2_unmark, Cond.instanceMethod yX2_unmark, Cond.selects RX2 yX2_unmark yX2_unmark, Cond.initialized RX2, Cond.code yX2_unmark cX2_unmark 1 none, Cond.fieldLink RX2 21 "DiagramBench$Pool" "marks" "[I", Cond.methodLink RX2 43 yJ7_fill_53178, Cond.static yJ7_fill_53178, Cond.initialized RJ7, Cond.code yJ7_fill_53178 cJ7_fill_53178 4 none, Cond.methodLink RX3 220 yX2_mark, Cond.instanceMethod yX2_mark, Cond.selects RX2 yX2_mark yX2_mark, Cond.code yX2_mark cX2_mark 2 none]
def wsX3_inUse_r2 : List Cond := [Cond.methodLink RX2 49 yX2_markWith, Cond.instanceMethod yX2_markWith, Cond.selects RX2 yX2_markWith yX2_markWith, Cond.code yX2_markWith cX2_markWith 4 none, Cond.fieldLink RX2 15 "DiagramBench$Pool" "lows" "[I", Cond.fieldLink RX2 18 "DiagramBench$Pool" "highs" "[I", Cond.methodLink RX3 224 yX2_sweep, Cond.instanceMethod yX2_sweep, Cond.selects RX2 yX2_sweep yX2_sweep, Cond.code yX2_sweep cX2_sweep 2 none, Cond.fieldLink RX2 27 "DiagramBench$Pool" "rows" "[I", Cond.fieldLink RX2 30 "DiagramBench$Pool" "firstFree" "I", Cond.fieldLink RX2 34 "DiagramBench$Pool" "used" "I", Cond.fieldLink RX2 24 "DiagramBench$Pool" "next" "[I", Cond.methodLink RX2 64 yX2_enter, Cond.instanceMethod yX2_enter, Cond.selects RX2 yX2_enter yX2_enter, Cond.code yX2_enter cX2_enter 3 none, Cond.methodLink RX3 158 yX2_usedCount, Cond.instanceMethod yX2_usedCount, Cond.selects RX2 yX2_usedCount yX2_usedCount, Cond.code yX2_usedCount cX2_usedCount 1 (some .int)]
def wsX3_inUse : List Cond := .code yX3_inUse cX3_inUse 1 (some .int) :: ((wsX3_inUse_r1 ++ wsX3_inUse_r2) ++ wsX30 ++ wsX20)
def wsX3_room_r1 : List Cond := [Cond.fieldLink RX3 25 "DiagramBench" "pool" "LDiagramBench$Pool;", Cond.methodLink RX3 117 yX3_inUse, Cond.instanceMethod yX3_inUse, Cond.selects RX3 yX3_inUse yX3_inUse, Cond.initialized RX3, Cond.code yX3_inUse cX3_inUse 1 (some .int), Cond.methodLink RX3 155 yX3_collect, Cond.instanceMethod yX3_collect, Cond.selects RX3 yX3_collect yX3_collect, Cond.code yX3_collect cX3_collect 2 none, Cond.fieldLink RX3 29 "DiagramBench" "held" "[I", Cond.fieldLink RX3 33 "DiagramBench" "ofGate" "[I", Cond.fieldLink RX3 42 "DiagramBench" "keptCount" "I", Cond.fieldLink RX3 39 "DiagramBench" "kept" "[I", Cond.methodLink RX3 217 yX2_unmark, Cond.instanceMethod yX2_unmark, Cond.selects RX2 yX2_unmark yX2_unmark, Cond.initialized RX2, Cond.code yX2_unmark cX2_unmark 1 none, Cond.fieldLink RX2 21 "DiagramBench$Pool" "marks" "[I", Cond.methodLink RX2 43 yJ7_fill_53178, Cond.static yJ7_fill_53178, Cond.initialized RJ7, Cond.code yJ7_fill_53178 cJ7_fill_53178 4 none]
def wsX3_room_r2 : List Cond := [Cond.methodLink RX3 220 yX2_mark, Cond.instanceMethod yX2_mark, Cond.selects RX2 yX2_mark yX2_mark, Cond.code yX2_mark cX2_mark 2 none, Cond.methodLink RX2 49 yX2_markWith, Cond.instanceMethod yX2_markWith, Cond.selects RX2 yX2_markWith yX2_markWith, Cond.code yX2_markWith cX2_markWith 4 none, Cond.fieldLink RX2 15 "DiagramBench$Pool" "lows" "[I", Cond.fieldLink RX2 18 "DiagramBench$Pool" "highs" "[I", Cond.methodLink RX3 224 yX2_sweep, Cond.instanceMethod yX2_sweep, Cond.selects RX2 yX2_sweep yX2_sweep, Cond.code yX2_sweep cX2_sweep 2 none, Cond.fieldLink RX2 27 "DiagramBench$Pool" "rows" "[I", Cond.fieldLink RX2 30 "DiagramBench$Pool" "firstFree" "I", Cond.fieldLink RX2 34 "DiagramBench$Pool" "used" "I", Cond.fieldLink RX2 24 "DiagramBench$Pool" "next" "[I", Cond.methodLink RX2 64 yX2_enter, Cond.instanceMethod yX2_enter, Cond.selects RX2 yX2_enter yX2_enter, Cond.code yX2_enter cX2_enter 3 none, Cond.methodLink RX3 158 yX2_usedCount, Cond.instanceMethod yX2_usedCount]
def wsX3_room_r3 : List Cond := [Cond.selects RX2 yX2_usedCount yX2_usedCount, Cond.code yX2_usedCount cX2_usedCount 1 (some .int), Cond.methodLink RX3 120 yX2_changeLimit, Cond.instanceMethod yX2_changeLimit, Cond.selects RX2 yX2_changeLimit yX2_changeLimit, Cond.code yX2_changeLimit cX2_changeLimit 3 (some .int), Cond.fieldLink RX2 37 "DiagramBench$Pool" "most" "I"]
def wsX3_room : List Cond := .code yX3_room cX3_room 2 (some .int) :: ((wsX3_room_r1 ++ (wsX3_room_r2 ++ wsX3_room_r3)) ++ wsX30 ++ wsX20)
def wsX3_isHandle : List Cond := .code yX3_isHandle cX3_isHandle 1 (some .boolean) :: ([])
def wsX3_beginSteps : List Cond := .code yX3_beginSteps cX3_beginSteps 1 none :: ([.fieldLink RX3 46 "DiagramBench" "mostInUse" "I"] ++ wsX30)
def wsX3_measured : List Cond := .code yX3_measured cX3_measured 3 (some .int) :: ([.fieldLink RX3 25 "DiagramBench" "pool" "LDiagramBench$Pool;", .fieldLink RX3 46 "DiagramBench" "mostInUse" "I", .methodLink RX3 212 Lib.Math.max.name, .static Lib.Math.max.name, .initialized "java/lang/Math", .code Lib.Math.max.name Lib.Math.max.code 2 (some .int), .methodLink RX3 194 yX2_limit, .instanceMethod yX2_limit, .selects RX2 yX2_limit yX2_limit, .initialized RX2, .code yX2_limit cX2_limit 1 (some .int), .fieldLink RX2 37 "DiagramBench$Pool" "most" "I", .methodLink RX3 158 yX2_usedCount, .instanceMethod yX2_usedCount, .selects RX2 yX2_usedCount yX2_usedCount, .code yX2_usedCount cX2_usedCount 1 (some .int), .fieldLink RX2 34 "DiagramBench$Pool" "used" "I"] ++ wsX30 ++ wsX20)
def wsX3_variableStep_r1 : List Cond := [Cond.fieldLink RX3 25 "DiagramBench" "pool" "LDiagramBench$Pool;", Cond.fieldLink RX3 18 "DiagramBench" "places" "LDiagramBench$Order;", Cond.methodLink RX3 155 yX3_collect, Cond.instanceMethod yX3_collect, Cond.selects RX3 yX3_collect yX3_collect, Cond.initialized RX3, Cond.code yX3_collect cX3_collect 2 none, Cond.fieldLink RX3 29 "DiagramBench" "held" "[I", Cond.fieldLink RX3 33 "DiagramBench" "ofGate" "[I", Cond.fieldLink RX3 42 "DiagramBench" "keptCount" "I", Cond.fieldLink RX3 39 "DiagramBench" "kept" "[I", Cond.methodLink RX3 217 yX2_unmark, Cond.instanceMethod yX2_unmark, Cond.selects RX2 yX2_unmark yX2_unmark, Cond.initialized RX2, Cond.code yX2_unmark cX2_unmark 1 none, Cond.fieldLink RX2 21 "DiagramBench$Pool" "marks" "[I", Cond.methodLink RX2 43 yJ7_fill_53178, Cond.static yJ7_fill_53178, Cond.initialized RJ7, Cond.code yJ7_fill_53178 cJ7_fill_53178 4 none, Cond.methodLink RX3 220 yX2_mark, Cond.instanceMethod yX2_mark, Cond.selects RX2 yX2_mark yX2_mark]
def wsX3_variableStep_r2 : List Cond := [Cond.code yX2_mark cX2_mark 2 none, Cond.methodLink RX2 49 yX2_markWith, Cond.instanceMethod yX2_markWith, Cond.selects RX2 yX2_markWith yX2_markWith, Cond.code yX2_markWith cX2_markWith 4 none, Cond.fieldLink RX2 15 "DiagramBench$Pool" "lows" "[I", Cond.fieldLink RX2 18 "DiagramBench$Pool" "highs" "[I", Cond.methodLink RX3 224 yX2_sweep, Cond.instanceMethod yX2_sweep, Cond.selects RX2 yX2_sweep yX2_sweep, Cond.code yX2_sweep cX2_sweep 2 none, Cond.fieldLink RX2 27 "DiagramBench$Pool" "rows" "[I", Cond.fieldLink RX2 30 "DiagramBench$Pool" "firstFree" "I", Cond.fieldLink RX2 34 "DiagramBench$Pool" "used" "I", Cond.fieldLink RX2 24 "DiagramBench$Pool" "next" "[I", Cond.methodLink RX2 64 yX2_enter, Cond.instanceMethod yX2_enter, Cond.selects RX2 yX2_enter yX2_enter, Cond.code yX2_enter cX2_enter 3 none, Cond.methodLink RX3 174 yX1_placeOf, Cond.instanceMethod yX1_placeOf, Cond.selects RX1 yX1_placeOf yX1_placeOf, Cond.initialized RX1, Cond.code yX1_placeOf cX1_placeOf 2 (some .int)]
def wsX3_variableStep_r3 : List Cond := [Cond.fieldLink RX1 15 "DiagramBench$Order" "placesOf" "[I", Cond.methodLink RX3 206 yX2_makeVariable, Cond.instanceMethod yX2_makeVariable, Cond.selects RX2 yX2_makeVariable yX2_makeVariable, Cond.code yX2_makeVariable cX2_makeVariable 2 (some .int), Cond.methodLink RX2 67 yX2_nodeFor, Cond.instanceMethod yX2_nodeFor, Cond.selects RX2 yX2_nodeFor yX2_nodeFor, Cond.code yX2_nodeFor cX2_nodeFor 6 (some .int), Cond.fieldLink RX2 11 "DiagramBench$Pool" "places" "[I", Cond.fieldLink RX2 37 "DiagramBench$Pool" "most" "I", Cond.methodLink RX3 203 yX3_measured, Cond.instanceMethod yX3_measured, Cond.selects RX3 yX3_measured yX3_measured, Cond.code yX3_measured cX3_measured 3 (some .int), Cond.fieldLink RX3 46 "DiagramBench" "mostInUse" "I", Cond.methodLink RX3 212 Lib.Math.max.name, Cond.static Lib.Math.max.name, Cond.initialized "java/lang/Math", Cond.code Lib.Math.max.name Lib.Math.max.code 2 (some .int), Cond.methodLink RX3 194 yX2_limit, Cond.instanceMethod yX2_limit, Cond.selects RX2 yX2_limit yX2_limit, Cond.code yX2_limit cX2_limit 1 (some .int)]
def wsX3_variableStep_r4 : List Cond := [Cond.methodLink RX3 158 yX2_usedCount, Cond.instanceMethod yX2_usedCount, Cond.selects RX2 yX2_usedCount yX2_usedCount, Cond.code yX2_usedCount cX2_usedCount 1 (some .int)]
def wsX3_variableStep : List Cond := .code yX3_variableStep cX3_variableStep 2 (some .int) :: ((wsX3_variableStep_r1 ++ (wsX3_variableStep_r2 ++ (wsX3_variableStep_r3 ++ wsX3_variableStep_r4))) ++ wsX30 ++ wsX20 ++ wsX10)
def wsX3_madeFor : List Cond := .code yX3_madeFor cX3_madeFor 4 (some .int) :: ([.fieldLink RX3 245 "DiagramBench" "OPERANDS" "[I", .fieldLink RX3 33 "DiagramBench" "ofGate" "[I", .methodLink RX3 231 yX0_kindOf, .instanceMethod yX0_kindOf, .selects RX0 yX0_kindOf yX0_kindOf, .initialized RX0, .code yX0_kindOf cX0_kindOf 2 (some .int), .fieldLink RX0 9 "DiagramBench$Net" "kinds" "[I", .methodLink RX3 234 yX0_operand, .instanceMethod yX0_operand, .selects RX0 yX0_operand yX0_operand, .code yX0_operand cX0_operand 3 (some .int), .fieldLink RX0 15 "DiagramBench$Net" "operands" "[I"] ++ wsX30 ++ wsX00)
def wsX3_kindStep_r1 : List Cond := [Cond.fieldLink RX3 25 "DiagramBench" "pool" "LDiagramBench$Pool;", Cond.fieldLink RX3 197 "DiagramBench" "TABLES" "[I", Cond.methodLink RX3 155 yX3_collect, Cond.instanceMethod yX3_collect, Cond.selects RX3 yX3_collect yX3_collect, Cond.initialized RX3, Cond.code yX3_collect cX3_collect 2 none, Cond.fieldLink RX3 29 "DiagramBench" "held" "[I", Cond.fieldLink RX3 33 "DiagramBench" "ofGate" "[I", Cond.fieldLink RX3 42 "DiagramBench" "keptCount" "I", Cond.fieldLink RX3 39 "DiagramBench" "kept" "[I", Cond.methodLink RX3 217 yX2_unmark, Cond.instanceMethod yX2_unmark, Cond.selects RX2 yX2_unmark yX2_unmark, Cond.initialized RX2, Cond.code yX2_unmark cX2_unmark 1 none, Cond.fieldLink RX2 21 "DiagramBench$Pool" "marks" "[I", Cond.methodLink RX2 43 yJ7_fill_53178, Cond.static yJ7_fill_53178, Cond.initialized RJ7, Cond.code yJ7_fill_53178 cJ7_fill_53178 4 none, Cond.methodLink RX3 220 yX2_mark, Cond.instanceMethod yX2_mark, Cond.selects RX2 yX2_mark yX2_mark]
def wsX3_kindStep_r2 : List Cond := [Cond.code yX2_mark cX2_mark 2 none, Cond.methodLink RX2 49 yX2_markWith, Cond.instanceMethod yX2_markWith, Cond.selects RX2 yX2_markWith yX2_markWith, Cond.code yX2_markWith cX2_markWith 4 none, Cond.fieldLink RX2 15 "DiagramBench$Pool" "lows" "[I", Cond.fieldLink RX2 18 "DiagramBench$Pool" "highs" "[I", Cond.methodLink RX3 224 yX2_sweep, Cond.instanceMethod yX2_sweep, Cond.selects RX2 yX2_sweep yX2_sweep, Cond.code yX2_sweep cX2_sweep 2 none, Cond.fieldLink RX2 27 "DiagramBench$Pool" "rows" "[I", Cond.fieldLink RX2 30 "DiagramBench$Pool" "firstFree" "I", Cond.fieldLink RX2 34 "DiagramBench$Pool" "used" "I", Cond.fieldLink RX2 24 "DiagramBench$Pool" "next" "[I", Cond.methodLink RX2 64 yX2_enter, Cond.instanceMethod yX2_enter, Cond.selects RX2 yX2_enter yX2_enter, Cond.code yX2_enter cX2_enter 3 none, Cond.methodLink RX3 200 yX2_make, Cond.instanceMethod yX2_make, Cond.selects RX2 yX2_make yX2_make, Cond.code yX2_make cX2_make 5 (some .int), Cond.methodLink RX2 71 yX2_makeFrom]
def wsX3_kindStep_r3 : List Cond := [Cond.instanceMethod yX2_makeFrom, Cond.selects RX2 yX2_makeFrom yX2_makeFrom, Cond.code yX2_makeFrom cX2_makeFrom 10 (some .int), Cond.fieldLink RX2 11 "DiagramBench$Pool" "places" "[I", Cond.methodLink RX2 79 Lib.Math.min.name, Cond.static Lib.Math.min.name, Cond.initialized "java/lang/Math", Cond.code Lib.Math.min.name Lib.Math.min.code 2 (some .int), Cond.methodLink RX2 75 yX2_knowing, Cond.static yX2_knowing, Cond.code yX2_knowing cX2_knowing 5 (some .int), Cond.methodLink RX2 85 yX2_lowAt, Cond.instanceMethod yX2_lowAt, Cond.selects RX2 yX2_lowAt yX2_lowAt, Cond.code yX2_lowAt cX2_lowAt 3 (some .int), Cond.methodLink RX2 88 yX2_highAt, Cond.instanceMethod yX2_highAt, Cond.selects RX2 yX2_highAt yX2_highAt, Cond.code yX2_highAt cX2_highAt 3 (some .int), Cond.methodLink RX2 67 yX2_nodeFor, Cond.instanceMethod yX2_nodeFor, Cond.selects RX2 yX2_nodeFor yX2_nodeFor, Cond.code yX2_nodeFor cX2_nodeFor 6 (some .int), Cond.fieldLink RX2 37 "DiagramBench$Pool" "most" "I"]
def wsX3_kindStep_r4 : List Cond := [Cond.methodLink RX3 203 yX3_measured, Cond.instanceMethod yX3_measured, Cond.selects RX3 yX3_measured yX3_measured, Cond.code yX3_measured cX3_measured 3 (some .int), Cond.fieldLink RX3 46 "DiagramBench" "mostInUse" "I", Cond.methodLink RX3 212 Lib.Math.max.name, Cond.static Lib.Math.max.name, Cond.code Lib.Math.max.name Lib.Math.max.code 2 (some .int), Cond.methodLink RX3 194 yX2_limit, Cond.instanceMethod yX2_limit, Cond.selects RX2 yX2_limit yX2_limit, Cond.code yX2_limit cX2_limit 1 (some .int), Cond.methodLink RX3 158 yX2_usedCount, Cond.instanceMethod yX2_usedCount, Cond.selects RX2 yX2_usedCount yX2_usedCount, Cond.code yX2_usedCount cX2_usedCount 1 (some .int)]
def wsX3_kindStep : List Cond := .code yX3_kindStep cX3_kindStep 5 (some .int) :: ((wsX3_kindStep_r1 ++ (wsX3_kindStep_r2 ++ (wsX3_kindStep_r3 ++ wsX3_kindStep_r4))) ++ wsX30 ++ wsX20)
def wsX3_letGoBehind : List Cond := .code yX3_letGoBehind cX3_letGoBehind 6 none :: ([.fieldLink RX3 245 "DiagramBench" "OPERANDS" "[I", .fieldLink RX3 36 "DiagramBench" "lastNeed" "[I", .fieldLink RX3 33 "DiagramBench" "ofGate" "[I", .methodLink RX3 231 yX0_kindOf, .instanceMethod yX0_kindOf, .selects RX0 yX0_kindOf yX0_kindOf, .initialized RX0, .code yX0_kindOf cX0_kindOf 2 (some .int), .fieldLink RX0 9 "DiagramBench$Net" "kinds" "[I", .methodLink RX3 234 yX0_operand, .instanceMethod yX0_operand, .selects RX0 yX0_operand yX0_operand, .code yX0_operand cX0_operand 3 (some .int), .fieldLink RX0 15 "DiagramBench$Net" "operands" "[I"] ++ wsX30 ++ wsX00)
def wsX3_keep : List Cond := .code yX3_keep cX3_keep 2 (some .int) :: ([.fieldLink RX3 42 "DiagramBench" "keptCount" "I", .fieldLink RX3 39 "DiagramBench" "kept" "[I"] ++ wsX30)
def wsX3_building_r1 : List Cond := [Cond.fieldLink RX3 36 "DiagramBench" "lastNeed" "[I", Cond.fieldLink RX3 33 "DiagramBench" "ofGate" "[I", Cond.methodLink RX3 227 yX0_findNeeds, Cond.instanceMethod yX0_findNeeds, Cond.selects RX0 yX0_findNeeds yX0_findNeeds, Cond.initialized RX0, Cond.code yX0_findNeeds cX0_findNeeds 5 (some .int), Cond.fieldLink RX0 18 "DiagramBench$Net" "outputGates" "[I", Cond.methodLink RX0 48 yJ7_fill_53178, Cond.static yJ7_fill_53178, Cond.initialized RJ7, Cond.code yJ7_fill_53178 cJ7_fill_53178 4 none, Cond.methodLink RX0 54 yX0_noteNeedsOf, Cond.instanceMethod yX0_noteNeedsOf, Cond.selects RX0 yX0_noteNeedsOf yX0_noteNeedsOf, Cond.code yX0_noteNeedsOf cX0_noteNeedsOf 5 none, Cond.fieldLink RX0 9 "DiagramBench$Net" "kinds" "[I", Cond.methodLink RX0 42 yX0_operand, Cond.instanceMethod yX0_operand, Cond.selects RX0 yX0_operand yX0_operand, Cond.code yX0_operand cX0_operand 3 (some .int), Cond.fieldLink RX0 15 "DiagramBench$Net" "operands" "[I", Cond.methodLink RX3 231 yX0_kindOf, Cond.instanceMethod yX0_kindOf]
def wsX3_building_r2 : List Cond := [Cond.selects RX0 yX0_kindOf yX0_kindOf, Cond.code yX0_kindOf cX0_kindOf 2 (some .int), Cond.methodLink RX3 234 yX0_operand, Cond.methodLink RX3 136 yX3_variableStep, Cond.instanceMethod yX3_variableStep, Cond.selects RX3 yX3_variableStep yX3_variableStep, Cond.initialized RX3, Cond.code yX3_variableStep cX3_variableStep 2 (some .int), Cond.fieldLink RX3 25 "DiagramBench" "pool" "LDiagramBench$Pool;", Cond.fieldLink RX3 18 "DiagramBench" "places" "LDiagramBench$Order;", Cond.methodLink RX3 155 yX3_collect, Cond.instanceMethod yX3_collect, Cond.selects RX3 yX3_collect yX3_collect, Cond.code yX3_collect cX3_collect 2 none, Cond.fieldLink RX3 29 "DiagramBench" "held" "[I", Cond.fieldLink RX3 42 "DiagramBench" "keptCount" "I", Cond.fieldLink RX3 39 "DiagramBench" "kept" "[I", Cond.methodLink RX3 217 yX2_unmark, Cond.instanceMethod yX2_unmark, Cond.selects RX2 yX2_unmark yX2_unmark, Cond.initialized RX2, Cond.code yX2_unmark cX2_unmark 1 none, Cond.fieldLink RX2 21 "DiagramBench$Pool" "marks" "[I", Cond.methodLink RX2 43 yJ7_fill_53178]
def wsX3_building_r3 : List Cond := [Cond.methodLink RX3 220 yX2_mark, Cond.instanceMethod yX2_mark, Cond.selects RX2 yX2_mark yX2_mark, Cond.code yX2_mark cX2_mark 2 none, Cond.methodLink RX2 49 yX2_markWith, Cond.instanceMethod yX2_markWith, Cond.selects RX2 yX2_markWith yX2_markWith, Cond.code yX2_markWith cX2_markWith 4 none, Cond.fieldLink RX2 15 "DiagramBench$Pool" "lows" "[I", Cond.fieldLink RX2 18 "DiagramBench$Pool" "highs" "[I", Cond.methodLink RX3 224 yX2_sweep, Cond.instanceMethod yX2_sweep, Cond.selects RX2 yX2_sweep yX2_sweep, Cond.code yX2_sweep cX2_sweep 2 none, Cond.fieldLink RX2 27 "DiagramBench$Pool" "rows" "[I", Cond.fieldLink RX2 30 "DiagramBench$Pool" "firstFree" "I", Cond.fieldLink RX2 34 "DiagramBench$Pool" "used" "I", Cond.fieldLink RX2 24 "DiagramBench$Pool" "next" "[I", Cond.methodLink RX2 64 yX2_enter, Cond.instanceMethod yX2_enter, Cond.selects RX2 yX2_enter yX2_enter, Cond.code yX2_enter cX2_enter 3 none, Cond.methodLink RX3 174 yX1_placeOf, Cond.instanceMethod yX1_placeOf]
def wsX3_building_r4 : List Cond := [Cond.selects RX1 yX1_placeOf yX1_placeOf, Cond.initialized RX1, Cond.code yX1_placeOf cX1_placeOf 2 (some .int), Cond.fieldLink RX1 15 "DiagramBench$Order" "placesOf" "[I", Cond.methodLink RX3 206 yX2_makeVariable, Cond.instanceMethod yX2_makeVariable, Cond.selects RX2 yX2_makeVariable yX2_makeVariable, Cond.code yX2_makeVariable cX2_makeVariable 2 (some .int), Cond.methodLink RX2 67 yX2_nodeFor, Cond.instanceMethod yX2_nodeFor, Cond.selects RX2 yX2_nodeFor yX2_nodeFor, Cond.code yX2_nodeFor cX2_nodeFor 6 (some .int), Cond.fieldLink RX2 11 "DiagramBench$Pool" "places" "[I", Cond.fieldLink RX2 37 "DiagramBench$Pool" "most" "I", Cond.methodLink RX3 203 yX3_measured, Cond.instanceMethod yX3_measured, Cond.selects RX3 yX3_measured yX3_measured, Cond.code yX3_measured cX3_measured 3 (some .int), Cond.fieldLink RX3 46 "DiagramBench" "mostInUse" "I", Cond.methodLink RX3 212 Lib.Math.max.name, Cond.static Lib.Math.max.name, Cond.initialized "java/lang/Math", Cond.code Lib.Math.max.name Lib.Math.max.code 2 (some .int), Cond.methodLink RX3 194 yX2_limit]
def wsX3_building_r5 : List Cond := [Cond.instanceMethod yX2_limit, Cond.selects RX2 yX2_limit yX2_limit, Cond.code yX2_limit cX2_limit 1 (some .int), Cond.methodLink RX3 158 yX2_usedCount, Cond.instanceMethod yX2_usedCount, Cond.selects RX2 yX2_usedCount yX2_usedCount, Cond.code yX2_usedCount cX2_usedCount 1 (some .int), Cond.methodLink RX3 237 yX3_madeFor, Cond.instanceMethod yX3_madeFor, Cond.selects RX3 yX3_madeFor yX3_madeFor, Cond.code yX3_madeFor cX3_madeFor 4 (some .int), Cond.fieldLink RX3 245 "DiagramBench" "OPERANDS" "[I", Cond.methodLink RX3 142 yX3_kindStep, Cond.instanceMethod yX3_kindStep, Cond.selects RX3 yX3_kindStep yX3_kindStep, Cond.code yX3_kindStep cX3_kindStep 5 (some .int), Cond.fieldLink RX3 197 "DiagramBench" "TABLES" "[I", Cond.methodLink RX3 200 yX2_make, Cond.instanceMethod yX2_make, Cond.selects RX2 yX2_make yX2_make, Cond.code yX2_make cX2_make 5 (some .int), Cond.methodLink RX2 71 yX2_makeFrom, Cond.instanceMethod yX2_makeFrom, Cond.selects RX2 yX2_makeFrom yX2_makeFrom]
def wsX3_building_r6 : List Cond := [Cond.code yX2_makeFrom cX2_makeFrom 10 (some .int), Cond.methodLink RX2 79 Lib.Math.min.name, Cond.static Lib.Math.min.name, Cond.code Lib.Math.min.name Lib.Math.min.code 2 (some .int), Cond.methodLink RX2 75 yX2_knowing, Cond.static yX2_knowing, Cond.code yX2_knowing cX2_knowing 5 (some .int), Cond.methodLink RX2 85 yX2_lowAt, Cond.instanceMethod yX2_lowAt, Cond.selects RX2 yX2_lowAt yX2_lowAt, Cond.code yX2_lowAt cX2_lowAt 3 (some .int), Cond.methodLink RX2 88 yX2_highAt, Cond.instanceMethod yX2_highAt, Cond.selects RX2 yX2_highAt yX2_highAt, Cond.code yX2_highAt cX2_highAt 3 (some .int), Cond.methodLink RX3 241 yX3_letGoBehind, Cond.instanceMethod yX3_letGoBehind, Cond.selects RX3 yX3_letGoBehind yX3_letGoBehind, Cond.code yX3_letGoBehind cX3_letGoBehind 6 none, Cond.methodLink RX3 149 yX3_keep, Cond.instanceMethod yX3_keep, Cond.selects RX3 yX3_keep yX3_keep, Cond.code yX3_keep cX3_keep 2 (some .int)]
def wsX3_building : List Cond := .code yX3_building cX3_building 7 (some .int) :: ((wsX3_building_r1 ++ (wsX3_building_r2 ++ (wsX3_building_r3 ++ (wsX3_building_r4 ++ (wsX3_building_r5 ++ wsX3_building_r6))))) ++ wsX30 ++ wsX00 ++ wsX20 ++ wsX10)
def wsX3_endSteps : List Cond := .code yX3_endSteps cX3_endSteps 1 none :: ([.fieldLink RX3 42 "DiagramBench" "keptCount" "I", .fieldLink RX3 33 "DiagramBench" "ofGate" "[I", .methodLink RX3 56 yJ7_fill_53178, .static yJ7_fill_53178, .initialized RJ7, .code yJ7_fill_53178 cJ7_fill_53178 4 none] ++ wsX30)
def wsX3_give_r1 : List Cond := [Cond.fieldLink RX3 29 "DiagramBench" "held" "[I", Cond.fieldLink RX3 25 "DiagramBench" "pool" "LDiagramBench$Pool;", Cond.methodLink RX3 188 yX3_endSteps, Cond.instanceMethod yX3_endSteps, Cond.selects RX3 yX3_endSteps yX3_endSteps, Cond.initialized RX3, Cond.code yX3_endSteps cX3_endSteps 1 none, Cond.fieldLink RX3 42 "DiagramBench" "keptCount" "I", Cond.fieldLink RX3 33 "DiagramBench" "ofGate" "[I", Cond.methodLink RX3 56 yJ7_fill_53178, Cond.static yJ7_fill_53178, Cond.initialized RJ7, Cond.code yJ7_fill_53178 cJ7_fill_53178 4 none, Cond.methodLink RX3 152 yX2_nodeCount, Cond.instanceMethod yX2_nodeCount, Cond.selects RX2 yX2_nodeCount yX2_nodeCount, Cond.initialized RX2, Cond.code yX2_nodeCount cX2_nodeCount 2 (some .int), Cond.methodLink RX2 53 yX2_unmark, Cond.instanceMethod yX2_unmark, Cond.selects RX2 yX2_unmark yX2_unmark, Cond.code yX2_unmark cX2_unmark 1 none, Cond.fieldLink RX2 21 "DiagramBench$Pool" "marks" "[I", Cond.methodLink RX2 43 yJ7_fill_53178]
def wsX3_give_r2 : List Cond := [Cond.methodLink RX2 56 yX2_mark, Cond.instanceMethod yX2_mark, Cond.selects RX2 yX2_mark yX2_mark, Cond.code yX2_mark cX2_mark 2 none, Cond.methodLink RX2 49 yX2_markWith, Cond.instanceMethod yX2_markWith, Cond.selects RX2 yX2_markWith yX2_markWith, Cond.code yX2_markWith cX2_markWith 4 none, Cond.fieldLink RX2 15 "DiagramBench$Pool" "lows" "[I", Cond.fieldLink RX2 18 "DiagramBench$Pool" "highs" "[I", Cond.methodLink RX2 60 yX2_markedWith, Cond.instanceMethod yX2_markedWith, Cond.selects RX2 yX2_markedWith yX2_markedWith, Cond.code yX2_markedWith cX2_markedWith 4 (some .int)]
def wsX3_give : List Cond := .code yX3_give cX3_give 3 (some .int) :: ((wsX3_give_r1 ++ wsX3_give_r2) ++ wsX30 ++ wsX20)
def wsX3_build_r1 : List Cond := [Cond.fieldLink RX3 11 "DiagramBench" "nets" "[LDiagramBench$Net;", Cond.methodLink RX3 123 yX3_isHandle, Cond.static yX3_isHandle, Cond.initialized RX3, Cond.code yX3_isHandle cX3_isHandle 1 (some .boolean), Cond.methodLink RX3 62 yX3_isNet, Cond.static yX3_isNet, Cond.code yX3_isNet cX3_isNet 1 (some .boolean), Cond.methodLink RX3 88 yX0_hasOutput, Cond.instanceMethod yX0_hasOutput, Cond.selects RX0 yX0_hasOutput yX0_hasOutput, Cond.initialized RX0, Cond.code yX0_hasOutput cX0_hasOutput 2 (some .boolean), Cond.fieldLink RX0 28 "DiagramBench$Net" "outputs" "I", Cond.methodLink RX3 126 yX3_beginSteps, Cond.instanceMethod yX3_beginSteps, Cond.selects RX3 yX3_beginSteps yX3_beginSteps, Cond.code yX3_beginSteps cX3_beginSteps 1 none, Cond.fieldLink RX3 46 "DiagramBench" "mostInUse" "I", Cond.methodLink RX3 129 yX3_building, Cond.instanceMethod yX3_building, Cond.selects RX3 yX3_building yX3_building, Cond.code yX3_building cX3_building 7 (some .int), Cond.fieldLink RX3 36 "DiagramBench" "lastNeed" "[I"]
def wsX3_build_r2 : List Cond := [Cond.fieldLink RX3 33 "DiagramBench" "ofGate" "[I", Cond.methodLink RX3 227 yX0_findNeeds, Cond.instanceMethod yX0_findNeeds, Cond.selects RX0 yX0_findNeeds yX0_findNeeds, Cond.code yX0_findNeeds cX0_findNeeds 5 (some .int), Cond.fieldLink RX0 18 "DiagramBench$Net" "outputGates" "[I", Cond.methodLink RX0 48 yJ7_fill_53178, Cond.static yJ7_fill_53178, Cond.initialized RJ7, Cond.code yJ7_fill_53178 cJ7_fill_53178 4 none, Cond.methodLink RX0 54 yX0_noteNeedsOf, Cond.instanceMethod yX0_noteNeedsOf, Cond.selects RX0 yX0_noteNeedsOf yX0_noteNeedsOf, Cond.code yX0_noteNeedsOf cX0_noteNeedsOf 5 none, Cond.fieldLink RX0 9 "DiagramBench$Net" "kinds" "[I", Cond.methodLink RX0 42 yX0_operand, Cond.instanceMethod yX0_operand, Cond.selects RX0 yX0_operand yX0_operand, Cond.code yX0_operand cX0_operand 3 (some .int), Cond.fieldLink RX0 15 "DiagramBench$Net" "operands" "[I", Cond.methodLink RX3 231 yX0_kindOf, Cond.instanceMethod yX0_kindOf, Cond.selects RX0 yX0_kindOf yX0_kindOf, Cond.code yX0_kindOf cX0_kindOf 2 (some .int)]
def wsX3_build_r3 : List Cond := [Cond.methodLink RX3 234 yX0_operand, Cond.methodLink RX3 136 yX3_variableStep, Cond.instanceMethod yX3_variableStep, Cond.selects RX3 yX3_variableStep yX3_variableStep, Cond.code yX3_variableStep cX3_variableStep 2 (some .int), Cond.fieldLink RX3 25 "DiagramBench" "pool" "LDiagramBench$Pool;", Cond.fieldLink RX3 18 "DiagramBench" "places" "LDiagramBench$Order;", Cond.methodLink RX3 155 yX3_collect, Cond.instanceMethod yX3_collect, Cond.selects RX3 yX3_collect yX3_collect, Cond.code yX3_collect cX3_collect 2 none, Cond.fieldLink RX3 29 "DiagramBench" "held" "[I", Cond.fieldLink RX3 42 "DiagramBench" "keptCount" "I", Cond.fieldLink RX3 39 "DiagramBench" "kept" "[I", Cond.methodLink RX3 217 yX2_unmark, Cond.instanceMethod yX2_unmark, Cond.selects RX2 yX2_unmark yX2_unmark, Cond.initialized RX2, Cond.code yX2_unmark cX2_unmark 1 none, Cond.fieldLink RX2 21 "DiagramBench$Pool" "marks" "[I", Cond.methodLink RX2 43 yJ7_fill_53178, Cond.methodLink RX3 220 yX2_mark, Cond.instanceMethod yX2_mark, Cond.selects RX2 yX2_mark yX2_mark]
def wsX3_build_r4 : List Cond := [Cond.code yX2_mark cX2_mark 2 none, Cond.methodLink RX2 49 yX2_markWith, Cond.instanceMethod yX2_markWith, Cond.selects RX2 yX2_markWith yX2_markWith, Cond.code yX2_markWith cX2_markWith 4 none, Cond.fieldLink RX2 15 "DiagramBench$Pool" "lows" "[I", Cond.fieldLink RX2 18 "DiagramBench$Pool" "highs" "[I", Cond.methodLink RX3 224 yX2_sweep, Cond.instanceMethod yX2_sweep, Cond.selects RX2 yX2_sweep yX2_sweep, Cond.code yX2_sweep cX2_sweep 2 none, Cond.fieldLink RX2 27 "DiagramBench$Pool" "rows" "[I", Cond.fieldLink RX2 30 "DiagramBench$Pool" "firstFree" "I", Cond.fieldLink RX2 34 "DiagramBench$Pool" "used" "I", Cond.fieldLink RX2 24 "DiagramBench$Pool" "next" "[I", Cond.methodLink RX2 64 yX2_enter, Cond.instanceMethod yX2_enter, Cond.selects RX2 yX2_enter yX2_enter, Cond.code yX2_enter cX2_enter 3 none, Cond.methodLink RX3 174 yX1_placeOf, Cond.instanceMethod yX1_placeOf, Cond.selects RX1 yX1_placeOf yX1_placeOf, Cond.initialized RX1, Cond.code yX1_placeOf cX1_placeOf 2 (some .int)]
def wsX3_build_r5 : List Cond := [Cond.fieldLink RX1 15 "DiagramBench$Order" "placesOf" "[I", Cond.methodLink RX3 206 yX2_makeVariable, Cond.instanceMethod yX2_makeVariable, Cond.selects RX2 yX2_makeVariable yX2_makeVariable, Cond.code yX2_makeVariable cX2_makeVariable 2 (some .int), Cond.methodLink RX2 67 yX2_nodeFor, Cond.instanceMethod yX2_nodeFor, Cond.selects RX2 yX2_nodeFor yX2_nodeFor, Cond.code yX2_nodeFor cX2_nodeFor 6 (some .int), Cond.fieldLink RX2 11 "DiagramBench$Pool" "places" "[I", Cond.fieldLink RX2 37 "DiagramBench$Pool" "most" "I", Cond.methodLink RX3 203 yX3_measured, Cond.instanceMethod yX3_measured, Cond.selects RX3 yX3_measured yX3_measured, Cond.code yX3_measured cX3_measured 3 (some .int), Cond.methodLink RX3 212 Lib.Math.max.name, Cond.static Lib.Math.max.name, Cond.initialized "java/lang/Math", Cond.code Lib.Math.max.name Lib.Math.max.code 2 (some .int), Cond.methodLink RX3 194 yX2_limit, Cond.instanceMethod yX2_limit, Cond.selects RX2 yX2_limit yX2_limit, Cond.code yX2_limit cX2_limit 1 (some .int), Cond.methodLink RX3 158 yX2_usedCount]
def wsX3_build_r6 : List Cond := [Cond.instanceMethod yX2_usedCount, Cond.selects RX2 yX2_usedCount yX2_usedCount, Cond.code yX2_usedCount cX2_usedCount 1 (some .int), Cond.methodLink RX3 237 yX3_madeFor, Cond.instanceMethod yX3_madeFor, Cond.selects RX3 yX3_madeFor yX3_madeFor, Cond.code yX3_madeFor cX3_madeFor 4 (some .int), Cond.fieldLink RX3 245 "DiagramBench" "OPERANDS" "[I", Cond.methodLink RX3 142 yX3_kindStep, Cond.instanceMethod yX3_kindStep, Cond.selects RX3 yX3_kindStep yX3_kindStep, Cond.code yX3_kindStep cX3_kindStep 5 (some .int), Cond.fieldLink RX3 197 "DiagramBench" "TABLES" "[I", Cond.methodLink RX3 200 yX2_make, Cond.instanceMethod yX2_make, Cond.selects RX2 yX2_make yX2_make, Cond.code yX2_make cX2_make 5 (some .int), Cond.methodLink RX2 71 yX2_makeFrom, Cond.instanceMethod yX2_makeFrom, Cond.selects RX2 yX2_makeFrom yX2_makeFrom, Cond.code yX2_makeFrom cX2_makeFrom 10 (some .int), Cond.methodLink RX2 79 Lib.Math.min.name, Cond.static Lib.Math.min.name, Cond.code Lib.Math.min.name Lib.Math.min.code 2 (some .int)]
def wsX3_build_r7 : List Cond := [Cond.methodLink RX2 75 yX2_knowing, Cond.static yX2_knowing, Cond.code yX2_knowing cX2_knowing 5 (some .int), Cond.methodLink RX2 85 yX2_lowAt, Cond.instanceMethod yX2_lowAt, Cond.selects RX2 yX2_lowAt yX2_lowAt, Cond.code yX2_lowAt cX2_lowAt 3 (some .int), Cond.methodLink RX2 88 yX2_highAt, Cond.instanceMethod yX2_highAt, Cond.selects RX2 yX2_highAt yX2_highAt, Cond.code yX2_highAt cX2_highAt 3 (some .int), Cond.methodLink RX3 241 yX3_letGoBehind, Cond.instanceMethod yX3_letGoBehind, Cond.selects RX3 yX3_letGoBehind yX3_letGoBehind, Cond.code yX3_letGoBehind cX3_letGoBehind 6 none, Cond.methodLink RX3 149 yX3_keep, Cond.instanceMethod yX3_keep, Cond.selects RX3 yX3_keep yX3_keep, Cond.code yX3_keep cX3_keep 2 (some .int), Cond.methodLink RX3 133 yX3_give, Cond.instanceMethod yX3_give, Cond.selects RX3 yX3_give yX3_give, Cond.code yX3_give cX3_give 3 (some .int), Cond.methodLink RX3 188 yX3_endSteps]
def wsX3_build_r8 : List Cond := [Cond.instanceMethod yX3_endSteps, Cond.selects RX3 yX3_endSteps yX3_endSteps, Cond.code yX3_endSteps cX3_endSteps 1 none, Cond.methodLink RX3 56 yJ7_fill_53178, Cond.methodLink RX3 152 yX2_nodeCount, Cond.instanceMethod yX2_nodeCount, Cond.selects RX2 yX2_nodeCount yX2_nodeCount, Cond.code yX2_nodeCount cX2_nodeCount 2 (some .int), Cond.methodLink RX2 53 yX2_unmark, Cond.methodLink RX2 56 yX2_mark, Cond.methodLink RX2 60 yX2_markedWith, Cond.instanceMethod yX2_markedWith, Cond.selects RX2 yX2_markedWith yX2_markedWith, Cond.code yX2_markedWith cX2_markedWith 4 (some .int)]
def wsX3_build : List Cond := .code yX3_build cX3_build 4 (some .int) :: ((wsX3_build_r1 ++ (wsX3_build_r2 ++ (wsX3_build_r3 ++ (wsX3_build_r4 ++ (wsX3_build_r5 ++ (wsX3_build_r6 ++ (wsX3_build_r7 ++ wsX3_build_r8))))))) ++ wsX30 ++ wsX00 ++ wsX20 ++ wsX10)
def wsX3_variable_r1 : List Cond := [Cond.methodLink RX3 123 yX3_isHandle, Cond.static yX3_isHandle, Cond.initialized RX3, Cond.code yX3_isHandle cX3_isHandle 1 (some .boolean), Cond.methodLink RX3 70 yX3_isVariable, Cond.static yX3_isVariable, Cond.code yX3_isVariable cX3_isVariable 1 (some .boolean), Cond.methodLink RX3 126 yX3_beginSteps, Cond.instanceMethod yX3_beginSteps, Cond.selects RX3 yX3_beginSteps yX3_beginSteps, Cond.code yX3_beginSteps cX3_beginSteps 1 none, Cond.fieldLink RX3 46 "DiagramBench" "mostInUse" "I", Cond.methodLink RX3 136 yX3_variableStep, Cond.instanceMethod yX3_variableStep, Cond.selects RX3 yX3_variableStep yX3_variableStep, Cond.code yX3_variableStep cX3_variableStep 2 (some .int), Cond.fieldLink RX3 25 "DiagramBench" "pool" "LDiagramBench$Pool;", Cond.fieldLink RX3 18 "DiagramBench" "places" "LDiagramBench$Order;", Cond.methodLink RX3 155 yX3_collect, Cond.instanceMethod yX3_collect, Cond.selects RX3 yX3_collect yX3_collect, Cond.code yX3_collect cX3_collect 2 none, Cond.fieldLink RX3 29 "DiagramBench" "held" "[I", Cond.fieldLink RX3 33 "DiagramBench" "ofGate" "[I"]
def wsX3_variable_r2 : List Cond := [Cond.fieldLink RX3 42 "DiagramBench" "keptCount" "I", Cond.fieldLink RX3 39 "DiagramBench" "kept" "[I", Cond.methodLink RX3 217 yX2_unmark, Cond.instanceMethod yX2_unmark, Cond.selects RX2 yX2_unmark yX2_unmark, Cond.initialized RX2, Cond.code yX2_unmark cX2_unmark 1 none, Cond.fieldLink RX2 21 "DiagramBench$Pool" "marks" "[I", Cond.methodLink RX2 43 yJ7_fill_53178, Cond.static yJ7_fill_53178, Cond.initialized RJ7, Cond.code yJ7_fill_53178 cJ7_fill_53178 4 none, Cond.methodLink RX3 220 yX2_mark, Cond.instanceMethod yX2_mark, Cond.selects RX2 yX2_mark yX2_mark, Cond.code yX2_mark cX2_mark 2 none, Cond.methodLink RX2 49 yX2_markWith, Cond.instanceMethod yX2_markWith, Cond.selects RX2 yX2_markWith yX2_markWith, Cond.code yX2_markWith cX2_markWith 4 none, Cond.fieldLink RX2 15 "DiagramBench$Pool" "lows" "[I", Cond.fieldLink RX2 18 "DiagramBench$Pool" "highs" "[I", Cond.methodLink RX3 224 yX2_sweep, Cond.instanceMethod yX2_sweep]
def wsX3_variable_r3 : List Cond := [Cond.selects RX2 yX2_sweep yX2_sweep, Cond.code yX2_sweep cX2_sweep 2 none, Cond.fieldLink RX2 27 "DiagramBench$Pool" "rows" "[I", Cond.fieldLink RX2 30 "DiagramBench$Pool" "firstFree" "I", Cond.fieldLink RX2 34 "DiagramBench$Pool" "used" "I", Cond.fieldLink RX2 24 "DiagramBench$Pool" "next" "[I", Cond.methodLink RX2 64 yX2_enter, Cond.instanceMethod yX2_enter, Cond.selects RX2 yX2_enter yX2_enter, Cond.code yX2_enter cX2_enter 3 none, Cond.methodLink RX3 174 yX1_placeOf, Cond.instanceMethod yX1_placeOf, Cond.selects RX1 yX1_placeOf yX1_placeOf, Cond.initialized RX1, Cond.code yX1_placeOf cX1_placeOf 2 (some .int), Cond.fieldLink RX1 15 "DiagramBench$Order" "placesOf" "[I", Cond.methodLink RX3 206 yX2_makeVariable, Cond.instanceMethod yX2_makeVariable, Cond.selects RX2 yX2_makeVariable yX2_makeVariable, Cond.code yX2_makeVariable cX2_makeVariable 2 (some .int), Cond.methodLink RX2 67 yX2_nodeFor, Cond.instanceMethod yX2_nodeFor, Cond.selects RX2 yX2_nodeFor yX2_nodeFor, Cond.code yX2_nodeFor cX2_nodeFor 6 (some .int)]
def wsX3_variable_r4 : List Cond := [Cond.fieldLink RX2 11 "DiagramBench$Pool" "places" "[I", Cond.fieldLink RX2 37 "DiagramBench$Pool" "most" "I", Cond.methodLink RX3 203 yX3_measured, Cond.instanceMethod yX3_measured, Cond.selects RX3 yX3_measured yX3_measured, Cond.code yX3_measured cX3_measured 3 (some .int), Cond.methodLink RX3 212 Lib.Math.max.name, Cond.static Lib.Math.max.name, Cond.initialized "java/lang/Math", Cond.code Lib.Math.max.name Lib.Math.max.code 2 (some .int), Cond.methodLink RX3 194 yX2_limit, Cond.instanceMethod yX2_limit, Cond.selects RX2 yX2_limit yX2_limit, Cond.code yX2_limit cX2_limit 1 (some .int), Cond.methodLink RX3 158 yX2_usedCount, Cond.instanceMethod yX2_usedCount, Cond.selects RX2 yX2_usedCount yX2_usedCount, Cond.code yX2_usedCount cX2_usedCount 1 (some .int), Cond.methodLink RX3 133 yX3_give, Cond.instanceMethod yX3_give, Cond.selects RX3 yX3_give yX3_give, Cond.code yX3_give cX3_give 3 (some .int), Cond.methodLink RX3 188 yX3_endSteps, Cond.instanceMethod yX3_endSteps]
def wsX3_variable_r5 : List Cond := [Cond.selects RX3 yX3_endSteps yX3_endSteps, Cond.code yX3_endSteps cX3_endSteps 1 none, Cond.methodLink RX3 56 yJ7_fill_53178, Cond.methodLink RX3 152 yX2_nodeCount, Cond.instanceMethod yX2_nodeCount, Cond.selects RX2 yX2_nodeCount yX2_nodeCount, Cond.code yX2_nodeCount cX2_nodeCount 2 (some .int), Cond.methodLink RX2 53 yX2_unmark, Cond.methodLink RX2 56 yX2_mark, Cond.methodLink RX2 60 yX2_markedWith, Cond.instanceMethod yX2_markedWith, Cond.selects RX2 yX2_markedWith yX2_markedWith, Cond.code yX2_markedWith cX2_markedWith 4 (some .int)]
def wsX3_variable : List Cond := .code yX3_variable cX3_variable 3 (some .int) :: ((wsX3_variable_r1 ++ (wsX3_variable_r2 ++ (wsX3_variable_r3 ++ (wsX3_variable_r4 ++ wsX3_variable_r5)))) ++ wsX30 ++ wsX20 ++ wsX10)
def wsX3_hasFunction : List Cond := .code yX3_hasFunction cX3_hasFunction 2 (some .boolean) :: ([.fieldLink RX3 29 "DiagramBench" "held" "[I", .methodLink RX3 123 yX3_isHandle, .static yX3_isHandle, .initialized RX3, .code yX3_isHandle cX3_isHandle 1 (some .boolean)] ++ wsX30)
def wsX3_combine_r1 : List Cond := [Cond.fieldLink RX3 29 "DiagramBench" "held" "[I", Cond.methodLink RX3 123 yX3_isHandle, Cond.static yX3_isHandle, Cond.initialized RX3, Cond.code yX3_isHandle cX3_isHandle 1 (some .boolean), Cond.methodLink RX3 139 yX3_hasFunction, Cond.instanceMethod yX3_hasFunction, Cond.selects RX3 yX3_hasFunction yX3_hasFunction, Cond.code yX3_hasFunction cX3_hasFunction 2 (some .boolean), Cond.methodLink RX3 126 yX3_beginSteps, Cond.instanceMethod yX3_beginSteps, Cond.selects RX3 yX3_beginSteps yX3_beginSteps, Cond.code yX3_beginSteps cX3_beginSteps 1 none, Cond.fieldLink RX3 46 "DiagramBench" "mostInUse" "I", Cond.methodLink RX3 142 yX3_kindStep, Cond.instanceMethod yX3_kindStep, Cond.selects RX3 yX3_kindStep yX3_kindStep, Cond.code yX3_kindStep cX3_kindStep 5 (some .int), Cond.fieldLink RX3 25 "DiagramBench" "pool" "LDiagramBench$Pool;", Cond.fieldLink RX3 197 "DiagramBench" "TABLES" "[I", Cond.methodLink RX3 155 yX3_collect, Cond.instanceMethod yX3_collect, Cond.selects RX3 yX3_collect yX3_collect, Cond.code yX3_collect cX3_collect 2 none]
def wsX3_combine_r2 : List Cond := [Cond.fieldLink RX3 33 "DiagramBench" "ofGate" "[I", Cond.fieldLink RX3 42 "DiagramBench" "keptCount" "I", Cond.fieldLink RX3 39 "DiagramBench" "kept" "[I", Cond.methodLink RX3 217 yX2_unmark, Cond.instanceMethod yX2_unmark, Cond.selects RX2 yX2_unmark yX2_unmark, Cond.initialized RX2, Cond.code yX2_unmark cX2_unmark 1 none, Cond.fieldLink RX2 21 "DiagramBench$Pool" "marks" "[I", Cond.methodLink RX2 43 yJ7_fill_53178, Cond.static yJ7_fill_53178, Cond.initialized RJ7, Cond.code yJ7_fill_53178 cJ7_fill_53178 4 none, Cond.methodLink RX3 220 yX2_mark, Cond.instanceMethod yX2_mark, Cond.selects RX2 yX2_mark yX2_mark, Cond.code yX2_mark cX2_mark 2 none, Cond.methodLink RX2 49 yX2_markWith, Cond.instanceMethod yX2_markWith, Cond.selects RX2 yX2_markWith yX2_markWith, Cond.code yX2_markWith cX2_markWith 4 none, Cond.fieldLink RX2 15 "DiagramBench$Pool" "lows" "[I", Cond.fieldLink RX2 18 "DiagramBench$Pool" "highs" "[I", Cond.methodLink RX3 224 yX2_sweep]
def wsX3_combine_r3 : List Cond := [Cond.instanceMethod yX2_sweep, Cond.selects RX2 yX2_sweep yX2_sweep, Cond.code yX2_sweep cX2_sweep 2 none, Cond.fieldLink RX2 27 "DiagramBench$Pool" "rows" "[I", Cond.fieldLink RX2 30 "DiagramBench$Pool" "firstFree" "I", Cond.fieldLink RX2 34 "DiagramBench$Pool" "used" "I", Cond.fieldLink RX2 24 "DiagramBench$Pool" "next" "[I", Cond.methodLink RX2 64 yX2_enter, Cond.instanceMethod yX2_enter, Cond.selects RX2 yX2_enter yX2_enter, Cond.code yX2_enter cX2_enter 3 none, Cond.methodLink RX3 200 yX2_make, Cond.instanceMethod yX2_make, Cond.selects RX2 yX2_make yX2_make, Cond.code yX2_make cX2_make 5 (some .int), Cond.methodLink RX2 71 yX2_makeFrom, Cond.instanceMethod yX2_makeFrom, Cond.selects RX2 yX2_makeFrom yX2_makeFrom, Cond.code yX2_makeFrom cX2_makeFrom 10 (some .int), Cond.fieldLink RX2 11 "DiagramBench$Pool" "places" "[I", Cond.methodLink RX2 79 Lib.Math.min.name, Cond.static Lib.Math.min.name, Cond.initialized "java/lang/Math", Cond.code Lib.Math.min.name Lib.Math.min.code 2 (some .int)]
def wsX3_combine_r4 : List Cond := [Cond.methodLink RX2 75 yX2_knowing, Cond.static yX2_knowing, Cond.code yX2_knowing cX2_knowing 5 (some .int), Cond.methodLink RX2 85 yX2_lowAt, Cond.instanceMethod yX2_lowAt, Cond.selects RX2 yX2_lowAt yX2_lowAt, Cond.code yX2_lowAt cX2_lowAt 3 (some .int), Cond.methodLink RX2 88 yX2_highAt, Cond.instanceMethod yX2_highAt, Cond.selects RX2 yX2_highAt yX2_highAt, Cond.code yX2_highAt cX2_highAt 3 (some .int), Cond.methodLink RX2 67 yX2_nodeFor, Cond.instanceMethod yX2_nodeFor, Cond.selects RX2 yX2_nodeFor yX2_nodeFor, Cond.code yX2_nodeFor cX2_nodeFor 6 (some .int), Cond.fieldLink RX2 37 "DiagramBench$Pool" "most" "I", Cond.methodLink RX3 203 yX3_measured, Cond.instanceMethod yX3_measured, Cond.selects RX3 yX3_measured yX3_measured, Cond.code yX3_measured cX3_measured 3 (some .int), Cond.methodLink RX3 212 Lib.Math.max.name, Cond.static Lib.Math.max.name, Cond.code Lib.Math.max.name Lib.Math.max.code 2 (some .int), Cond.methodLink RX3 194 yX2_limit]
def wsX3_combine_r5 : List Cond := [Cond.instanceMethod yX2_limit, Cond.selects RX2 yX2_limit yX2_limit, Cond.code yX2_limit cX2_limit 1 (some .int), Cond.methodLink RX3 158 yX2_usedCount, Cond.instanceMethod yX2_usedCount, Cond.selects RX2 yX2_usedCount yX2_usedCount, Cond.code yX2_usedCount cX2_usedCount 1 (some .int), Cond.methodLink RX3 133 yX3_give, Cond.instanceMethod yX3_give, Cond.selects RX3 yX3_give yX3_give, Cond.code yX3_give cX3_give 3 (some .int), Cond.methodLink RX3 188 yX3_endSteps, Cond.instanceMethod yX3_endSteps, Cond.selects RX3 yX3_endSteps yX3_endSteps, Cond.code yX3_endSteps cX3_endSteps 1 none, Cond.methodLink RX3 56 yJ7_fill_53178, Cond.methodLink RX3 152 yX2_nodeCount, Cond.instanceMethod yX2_nodeCount, Cond.selects RX2 yX2_nodeCount yX2_nodeCount, Cond.code yX2_nodeCount cX2_nodeCount 2 (some .int), Cond.methodLink RX2 53 yX2_unmark, Cond.methodLink RX2 56 yX2_mark, Cond.methodLink RX2 60 yX2_markedWith, Cond.instanceMethod yX2_markedWith]
def wsX3_combine_r6 : List Cond := [Cond.selects RX2 yX2_markedWith yX2_markedWith, Cond.code yX2_markedWith cX2_markedWith 4 (some .int)]
def wsX3_combine : List Cond := .code yX3_combine cX3_combine 7 (some .int) :: ((wsX3_combine_r1 ++ (wsX3_combine_r2 ++ (wsX3_combine_r3 ++ (wsX3_combine_r4 ++ (wsX3_combine_r5 ++ wsX3_combine_r6))))) ++ wsX30 ++ wsX20)
def wsX3_choose_r1 : List Cond := [Cond.fieldLink RX3 29 "DiagramBench" "held" "[I", Cond.methodLink RX3 123 yX3_isHandle, Cond.static yX3_isHandle, Cond.initialized RX3, Cond.code yX3_isHandle cX3_isHandle 1 (some .boolean), Cond.methodLink RX3 139 yX3_hasFunction, Cond.instanceMethod yX3_hasFunction, Cond.selects RX3 yX3_hasFunction yX3_hasFunction, Cond.code yX3_hasFunction cX3_hasFunction 2 (some .boolean), Cond.methodLink RX3 126 yX3_beginSteps, Cond.instanceMethod yX3_beginSteps, Cond.selects RX3 yX3_beginSteps yX3_beginSteps, Cond.code yX3_beginSteps cX3_beginSteps 1 none, Cond.fieldLink RX3 46 "DiagramBench" "mostInUse" "I", Cond.methodLink RX3 142 yX3_kindStep, Cond.instanceMethod yX3_kindStep, Cond.selects RX3 yX3_kindStep yX3_kindStep, Cond.code yX3_kindStep cX3_kindStep 5 (some .int), Cond.fieldLink RX3 25 "DiagramBench" "pool" "LDiagramBench$Pool;", Cond.fieldLink RX3 197 "DiagramBench" "TABLES" "[I", Cond.methodLink RX3 155 yX3_collect, Cond.instanceMethod yX3_collect, Cond.selects RX3 yX3_collect yX3_collect, Cond.code yX3_collect cX3_collect 2 none]
def wsX3_choose_r2 : List Cond := [Cond.fieldLink RX3 33 "DiagramBench" "ofGate" "[I", Cond.fieldLink RX3 42 "DiagramBench" "keptCount" "I", Cond.fieldLink RX3 39 "DiagramBench" "kept" "[I", Cond.methodLink RX3 217 yX2_unmark, Cond.instanceMethod yX2_unmark, Cond.selects RX2 yX2_unmark yX2_unmark, Cond.initialized RX2, Cond.code yX2_unmark cX2_unmark 1 none, Cond.fieldLink RX2 21 "DiagramBench$Pool" "marks" "[I", Cond.methodLink RX2 43 yJ7_fill_53178, Cond.static yJ7_fill_53178, Cond.initialized RJ7, Cond.code yJ7_fill_53178 cJ7_fill_53178 4 none, Cond.methodLink RX3 220 yX2_mark, Cond.instanceMethod yX2_mark, Cond.selects RX2 yX2_mark yX2_mark, Cond.code yX2_mark cX2_mark 2 none, Cond.methodLink RX2 49 yX2_markWith, Cond.instanceMethod yX2_markWith, Cond.selects RX2 yX2_markWith yX2_markWith, Cond.code yX2_markWith cX2_markWith 4 none, Cond.fieldLink RX2 15 "DiagramBench$Pool" "lows" "[I", Cond.fieldLink RX2 18 "DiagramBench$Pool" "highs" "[I", Cond.methodLink RX3 224 yX2_sweep]
def wsX3_choose_r3 : List Cond := [Cond.instanceMethod yX2_sweep, Cond.selects RX2 yX2_sweep yX2_sweep, Cond.code yX2_sweep cX2_sweep 2 none, Cond.fieldLink RX2 27 "DiagramBench$Pool" "rows" "[I", Cond.fieldLink RX2 30 "DiagramBench$Pool" "firstFree" "I", Cond.fieldLink RX2 34 "DiagramBench$Pool" "used" "I", Cond.fieldLink RX2 24 "DiagramBench$Pool" "next" "[I", Cond.methodLink RX2 64 yX2_enter, Cond.instanceMethod yX2_enter, Cond.selects RX2 yX2_enter yX2_enter, Cond.code yX2_enter cX2_enter 3 none, Cond.methodLink RX3 200 yX2_make, Cond.instanceMethod yX2_make, Cond.selects RX2 yX2_make yX2_make, Cond.code yX2_make cX2_make 5 (some .int), Cond.methodLink RX2 71 yX2_makeFrom, Cond.instanceMethod yX2_makeFrom, Cond.selects RX2 yX2_makeFrom yX2_makeFrom, Cond.code yX2_makeFrom cX2_makeFrom 10 (some .int), Cond.fieldLink RX2 11 "DiagramBench$Pool" "places" "[I", Cond.methodLink RX2 79 Lib.Math.min.name, Cond.static Lib.Math.min.name, Cond.initialized "java/lang/Math", Cond.code Lib.Math.min.name Lib.Math.min.code 2 (some .int)]
def wsX3_choose_r4 : List Cond := [Cond.methodLink RX2 75 yX2_knowing, Cond.static yX2_knowing, Cond.code yX2_knowing cX2_knowing 5 (some .int), Cond.methodLink RX2 85 yX2_lowAt, Cond.instanceMethod yX2_lowAt, Cond.selects RX2 yX2_lowAt yX2_lowAt, Cond.code yX2_lowAt cX2_lowAt 3 (some .int), Cond.methodLink RX2 88 yX2_highAt, Cond.instanceMethod yX2_highAt, Cond.selects RX2 yX2_highAt yX2_highAt, Cond.code yX2_highAt cX2_highAt 3 (some .int), Cond.methodLink RX2 67 yX2_nodeFor, Cond.instanceMethod yX2_nodeFor, Cond.selects RX2 yX2_nodeFor yX2_nodeFor, Cond.code yX2_nodeFor cX2_nodeFor 6 (some .int), Cond.fieldLink RX2 37 "DiagramBench$Pool" "most" "I", Cond.methodLink RX3 203 yX3_measured, Cond.instanceMethod yX3_measured, Cond.selects RX3 yX3_measured yX3_measured, Cond.code yX3_measured cX3_measured 3 (some .int), Cond.methodLink RX3 212 Lib.Math.max.name, Cond.static Lib.Math.max.name, Cond.code Lib.Math.max.name Lib.Math.max.code 2 (some .int), Cond.methodLink RX3 194 yX2_limit]
def wsX3_choose_r5 : List Cond := [Cond.instanceMethod yX2_limit, Cond.selects RX2 yX2_limit yX2_limit, Cond.code yX2_limit cX2_limit 1 (some .int), Cond.methodLink RX3 158 yX2_usedCount, Cond.instanceMethod yX2_usedCount, Cond.selects RX2 yX2_usedCount yX2_usedCount, Cond.code yX2_usedCount cX2_usedCount 1 (some .int), Cond.methodLink RX3 133 yX3_give, Cond.instanceMethod yX3_give, Cond.selects RX3 yX3_give yX3_give, Cond.code yX3_give cX3_give 3 (some .int), Cond.methodLink RX3 188 yX3_endSteps, Cond.instanceMethod yX3_endSteps, Cond.selects RX3 yX3_endSteps yX3_endSteps, Cond.code yX3_endSteps cX3_endSteps 1 none, Cond.methodLink RX3 56 yJ7_fill_53178, Cond.methodLink RX3 152 yX2_nodeCount, Cond.instanceMethod yX2_nodeCount, Cond.selects RX2 yX2_nodeCount yX2_nodeCount, Cond.code yX2_nodeCount cX2_nodeCount 2 (some .int), Cond.methodLink RX2 53 yX2_unmark, Cond.methodLink RX2 56 yX2_mark, Cond.methodLink RX2 60 yX2_markedWith, Cond.instanceMethod yX2_markedWith]
def wsX3_choose_r6 : List Cond := [Cond.selects RX2 yX2_markedWith yX2_markedWith, Cond.code yX2_markedWith cX2_markedWith 4 (some .int)]
def wsX3_choose : List Cond := .code yX3_choose cX3_choose 5 (some .int) :: ((wsX3_choose_r1 ++ (wsX3_choose_r2 ++ (wsX3_choose_r3 ++ (wsX3_choose_r4 ++ (wsX3_choose_r5 ++ wsX3_choose_r6))))) ++ wsX30 ++ wsX20)
def wsX3_fixStep_r1 : List Cond := [Cond.fieldLink RX3 25 "DiagramBench" "pool" "LDiagramBench$Pool;", Cond.fieldLink RX3 18 "DiagramBench" "places" "LDiagramBench$Order;", Cond.methodLink RX3 155 yX3_collect, Cond.instanceMethod yX3_collect, Cond.selects RX3 yX3_collect yX3_collect, Cond.initialized RX3, Cond.code yX3_collect cX3_collect 2 none, Cond.fieldLink RX3 29 "DiagramBench" "held" "[I", Cond.fieldLink RX3 33 "DiagramBench" "ofGate" "[I", Cond.fieldLink RX3 42 "DiagramBench" "keptCount" "I", Cond.fieldLink RX3 39 "DiagramBench" "kept" "[I", Cond.methodLink RX3 217 yX2_unmark, Cond.instanceMethod yX2_unmark, Cond.selects RX2 yX2_unmark yX2_unmark, Cond.initialized RX2, Cond.code yX2_unmark cX2_unmark 1 none, Cond.fieldLink RX2 21 "DiagramBench$Pool" "marks" "[I", Cond.methodLink RX2 43 yJ7_fill_53178, Cond.static yJ7_fill_53178, Cond.initialized RJ7, Cond.code yJ7_fill_53178 cJ7_fill_53178 4 none, Cond.methodLink RX3 220 yX2_mark, Cond.instanceMethod yX2_mark, Cond.selects RX2 yX2_mark yX2_mark]
def wsX3_fixStep_r2 : List Cond := [Cond.code yX2_mark cX2_mark 2 none, Cond.methodLink RX2 49 yX2_markWith, Cond.instanceMethod yX2_markWith, Cond.selects RX2 yX2_markWith yX2_markWith, Cond.code yX2_markWith cX2_markWith 4 none, Cond.fieldLink RX2 15 "DiagramBench$Pool" "lows" "[I", Cond.fieldLink RX2 18 "DiagramBench$Pool" "highs" "[I", Cond.methodLink RX3 224 yX2_sweep, Cond.instanceMethod yX2_sweep, Cond.selects RX2 yX2_sweep yX2_sweep, Cond.code yX2_sweep cX2_sweep 2 none, Cond.fieldLink RX2 27 "DiagramBench$Pool" "rows" "[I", Cond.fieldLink RX2 30 "DiagramBench$Pool" "firstFree" "I", Cond.fieldLink RX2 34 "DiagramBench$Pool" "used" "I", Cond.fieldLink RX2 24 "DiagramBench$Pool" "next" "[I", Cond.methodLink RX2 64 yX2_enter, Cond.instanceMethod yX2_enter, Cond.selects RX2 yX2_enter yX2_enter, Cond.code yX2_enter cX2_enter 3 none, Cond.methodLink RX3 174 yX1_placeOf, Cond.instanceMethod yX1_placeOf, Cond.selects RX1 yX1_placeOf yX1_placeOf, Cond.initialized RX1, Cond.code yX1_placeOf cX1_placeOf 2 (some .int)]
def wsX3_fixStep_r3 : List Cond := [Cond.fieldLink RX1 15 "DiagramBench$Order" "placesOf" "[I", Cond.methodLink RX3 209 yX2_makeFixed, Cond.instanceMethod yX2_makeFixed, Cond.selects RX2 yX2_makeFixed yX2_makeFixed, Cond.code yX2_makeFixed cX2_makeFixed 4 (some .int), Cond.methodLink RX2 91 yX2_fixFrom, Cond.instanceMethod yX2_fixFrom, Cond.selects RX2 yX2_fixFrom yX2_fixFrom, Cond.code yX2_fixFrom cX2_fixFrom 7 (some .int), Cond.fieldLink RX2 11 "DiagramBench$Pool" "places" "[I", Cond.methodLink RX2 67 yX2_nodeFor, Cond.instanceMethod yX2_nodeFor, Cond.selects RX2 yX2_nodeFor yX2_nodeFor, Cond.code yX2_nodeFor cX2_nodeFor 6 (some .int), Cond.fieldLink RX2 37 "DiagramBench$Pool" "most" "I", Cond.methodLink RX3 203 yX3_measured, Cond.instanceMethod yX3_measured, Cond.selects RX3 yX3_measured yX3_measured, Cond.code yX3_measured cX3_measured 3 (some .int), Cond.fieldLink RX3 46 "DiagramBench" "mostInUse" "I", Cond.methodLink RX3 212 Lib.Math.max.name, Cond.static Lib.Math.max.name, Cond.initialized "java/lang/Math", Cond.code Lib.Math.max.name Lib.Math.max.code 2 (some .int)]
def wsX3_fixStep_r4 : List Cond := [Cond.methodLink RX3 194 yX2_limit, Cond.instanceMethod yX2_limit, Cond.selects RX2 yX2_limit yX2_limit, Cond.code yX2_limit cX2_limit 1 (some .int), Cond.methodLink RX3 158 yX2_usedCount, Cond.instanceMethod yX2_usedCount, Cond.selects RX2 yX2_usedCount yX2_usedCount, Cond.code yX2_usedCount cX2_usedCount 1 (some .int)]
def wsX3_fixStep : List Cond := .code yX3_fixStep cX3_fixStep 4 (some .int) :: ((wsX3_fixStep_r1 ++ (wsX3_fixStep_r2 ++ (wsX3_fixStep_r3 ++ wsX3_fixStep_r4))) ++ wsX30 ++ wsX20 ++ wsX10)
def wsX3_restrict_r1 : List Cond := [Cond.fieldLink RX3 29 "DiagramBench" "held" "[I", Cond.methodLink RX3 123 yX3_isHandle, Cond.static yX3_isHandle, Cond.initialized RX3, Cond.code yX3_isHandle cX3_isHandle 1 (some .boolean), Cond.methodLink RX3 139 yX3_hasFunction, Cond.instanceMethod yX3_hasFunction, Cond.selects RX3 yX3_hasFunction yX3_hasFunction, Cond.code yX3_hasFunction cX3_hasFunction 2 (some .boolean), Cond.methodLink RX3 70 yX3_isVariable, Cond.static yX3_isVariable, Cond.code yX3_isVariable cX3_isVariable 1 (some .boolean), Cond.methodLink RX3 126 yX3_beginSteps, Cond.instanceMethod yX3_beginSteps, Cond.selects RX3 yX3_beginSteps yX3_beginSteps, Cond.code yX3_beginSteps cX3_beginSteps 1 none, Cond.fieldLink RX3 46 "DiagramBench" "mostInUse" "I", Cond.methodLink RX3 145 yX3_fixStep, Cond.instanceMethod yX3_fixStep, Cond.selects RX3 yX3_fixStep yX3_fixStep, Cond.code yX3_fixStep cX3_fixStep 4 (some .int), Cond.fieldLink RX3 25 "DiagramBench" "pool" "LDiagramBench$Pool;", Cond.fieldLink RX3 18 "DiagramBench" "places" "LDiagramBench$Order;", Cond.methodLink RX3 155 yX3_collect]
def wsX3_restrict_r2 : List Cond := [Cond.instanceMethod yX3_collect, Cond.selects RX3 yX3_collect yX3_collect, Cond.code yX3_collect cX3_collect 2 none, Cond.fieldLink RX3 33 "DiagramBench" "ofGate" "[I", Cond.fieldLink RX3 42 "DiagramBench" "keptCount" "I", Cond.fieldLink RX3 39 "DiagramBench" "kept" "[I", Cond.methodLink RX3 217 yX2_unmark, Cond.instanceMethod yX2_unmark, Cond.selects RX2 yX2_unmark yX2_unmark, Cond.initialized RX2, Cond.code yX2_unmark cX2_unmark 1 none, Cond.fieldLink RX2 21 "DiagramBench$Pool" "marks" "[I", Cond.methodLink RX2 43 yJ7_fill_53178, Cond.static yJ7_fill_53178, Cond.initialized RJ7, Cond.code yJ7_fill_53178 cJ7_fill_53178 4 none, Cond.methodLink RX3 220 yX2_mark, Cond.instanceMethod yX2_mark, Cond.selects RX2 yX2_mark yX2_mark, Cond.code yX2_mark cX2_mark 2 none, Cond.methodLink RX2 49 yX2_markWith, Cond.instanceMethod yX2_markWith, Cond.selects RX2 yX2_markWith yX2_markWith, Cond.code yX2_markWith cX2_markWith 4 none]
def wsX3_restrict_r3 : List Cond := [Cond.fieldLink RX2 15 "DiagramBench$Pool" "lows" "[I", Cond.fieldLink RX2 18 "DiagramBench$Pool" "highs" "[I", Cond.methodLink RX3 224 yX2_sweep, Cond.instanceMethod yX2_sweep, Cond.selects RX2 yX2_sweep yX2_sweep, Cond.code yX2_sweep cX2_sweep 2 none, Cond.fieldLink RX2 27 "DiagramBench$Pool" "rows" "[I", Cond.fieldLink RX2 30 "DiagramBench$Pool" "firstFree" "I", Cond.fieldLink RX2 34 "DiagramBench$Pool" "used" "I", Cond.fieldLink RX2 24 "DiagramBench$Pool" "next" "[I", Cond.methodLink RX2 64 yX2_enter, Cond.instanceMethod yX2_enter, Cond.selects RX2 yX2_enter yX2_enter, Cond.code yX2_enter cX2_enter 3 none, Cond.methodLink RX3 174 yX1_placeOf, Cond.instanceMethod yX1_placeOf, Cond.selects RX1 yX1_placeOf yX1_placeOf, Cond.initialized RX1, Cond.code yX1_placeOf cX1_placeOf 2 (some .int), Cond.fieldLink RX1 15 "DiagramBench$Order" "placesOf" "[I", Cond.methodLink RX3 209 yX2_makeFixed, Cond.instanceMethod yX2_makeFixed, Cond.selects RX2 yX2_makeFixed yX2_makeFixed, Cond.code yX2_makeFixed cX2_makeFixed 4 (some .int)]
def wsX3_restrict_r4 : List Cond := [Cond.methodLink RX2 91 yX2_fixFrom, Cond.instanceMethod yX2_fixFrom, Cond.selects RX2 yX2_fixFrom yX2_fixFrom, Cond.code yX2_fixFrom cX2_fixFrom 7 (some .int), Cond.fieldLink RX2 11 "DiagramBench$Pool" "places" "[I", Cond.methodLink RX2 67 yX2_nodeFor, Cond.instanceMethod yX2_nodeFor, Cond.selects RX2 yX2_nodeFor yX2_nodeFor, Cond.code yX2_nodeFor cX2_nodeFor 6 (some .int), Cond.fieldLink RX2 37 "DiagramBench$Pool" "most" "I", Cond.methodLink RX3 203 yX3_measured, Cond.instanceMethod yX3_measured, Cond.selects RX3 yX3_measured yX3_measured, Cond.code yX3_measured cX3_measured 3 (some .int), Cond.methodLink RX3 212 Lib.Math.max.name, Cond.static Lib.Math.max.name, Cond.initialized "java/lang/Math", Cond.code Lib.Math.max.name Lib.Math.max.code 2 (some .int), Cond.methodLink RX3 194 yX2_limit, Cond.instanceMethod yX2_limit, Cond.selects RX2 yX2_limit yX2_limit, Cond.code yX2_limit cX2_limit 1 (some .int), Cond.methodLink RX3 158 yX2_usedCount, Cond.instanceMethod yX2_usedCount]
def wsX3_restrict_r5 : List Cond := [Cond.selects RX2 yX2_usedCount yX2_usedCount, Cond.code yX2_usedCount cX2_usedCount 1 (some .int), Cond.methodLink RX3 133 yX3_give, Cond.instanceMethod yX3_give, Cond.selects RX3 yX3_give yX3_give, Cond.code yX3_give cX3_give 3 (some .int), Cond.methodLink RX3 188 yX3_endSteps, Cond.instanceMethod yX3_endSteps, Cond.selects RX3 yX3_endSteps yX3_endSteps, Cond.code yX3_endSteps cX3_endSteps 1 none, Cond.methodLink RX3 56 yJ7_fill_53178, Cond.methodLink RX3 152 yX2_nodeCount, Cond.instanceMethod yX2_nodeCount, Cond.selects RX2 yX2_nodeCount yX2_nodeCount, Cond.code yX2_nodeCount cX2_nodeCount 2 (some .int), Cond.methodLink RX2 53 yX2_unmark, Cond.methodLink RX2 56 yX2_mark, Cond.methodLink RX2 60 yX2_markedWith, Cond.instanceMethod yX2_markedWith, Cond.selects RX2 yX2_markedWith yX2_markedWith, Cond.code yX2_markedWith cX2_markedWith 4 (some .int)]
def wsX3_restrict : List Cond := .code yX3_restrict cX3_restrict 5 (some .int) :: ((wsX3_restrict_r1 ++ (wsX3_restrict_r2 ++ (wsX3_restrict_r3 ++ (wsX3_restrict_r4 ++ wsX3_restrict_r5)))) ++ wsX30 ++ wsX20 ++ wsX10)
def wsX3_quantify_r1 : List Cond := [Cond.fieldLink RX3 29 "DiagramBench" "held" "[I", Cond.methodLink RX3 123 yX3_isHandle, Cond.static yX3_isHandle, Cond.initialized RX3, Cond.code yX3_isHandle cX3_isHandle 1 (some .boolean), Cond.methodLink RX3 139 yX3_hasFunction, Cond.instanceMethod yX3_hasFunction, Cond.selects RX3 yX3_hasFunction yX3_hasFunction, Cond.code yX3_hasFunction cX3_hasFunction 2 (some .boolean), Cond.methodLink RX3 70 yX3_isVariable, Cond.static yX3_isVariable, Cond.code yX3_isVariable cX3_isVariable 1 (some .boolean), Cond.methodLink RX3 126 yX3_beginSteps, Cond.instanceMethod yX3_beginSteps, Cond.selects RX3 yX3_beginSteps yX3_beginSteps, Cond.code yX3_beginSteps cX3_beginSteps 1 none, Cond.fieldLink RX3 46 "DiagramBench" "mostInUse" "I", Cond.methodLink RX3 145 yX3_fixStep, Cond.instanceMethod yX3_fixStep, Cond.selects RX3 yX3_fixStep yX3_fixStep, Cond.code yX3_fixStep cX3_fixStep 4 (some .int), Cond.fieldLink RX3 25 "DiagramBench" "pool" "LDiagramBench$Pool;", Cond.fieldLink RX3 18 "DiagramBench" "places" "LDiagramBench$Order;", Cond.methodLink RX3 155 yX3_collect]
def wsX3_quantify_r2 : List Cond := [Cond.instanceMethod yX3_collect, Cond.selects RX3 yX3_collect yX3_collect, Cond.code yX3_collect cX3_collect 2 none, Cond.fieldLink RX3 33 "DiagramBench" "ofGate" "[I", Cond.fieldLink RX3 42 "DiagramBench" "keptCount" "I", Cond.fieldLink RX3 39 "DiagramBench" "kept" "[I", Cond.methodLink RX3 217 yX2_unmark, Cond.instanceMethod yX2_unmark, Cond.selects RX2 yX2_unmark yX2_unmark, Cond.initialized RX2, Cond.code yX2_unmark cX2_unmark 1 none, Cond.fieldLink RX2 21 "DiagramBench$Pool" "marks" "[I", Cond.methodLink RX2 43 yJ7_fill_53178, Cond.static yJ7_fill_53178, Cond.initialized RJ7, Cond.code yJ7_fill_53178 cJ7_fill_53178 4 none, Cond.methodLink RX3 220 yX2_mark, Cond.instanceMethod yX2_mark, Cond.selects RX2 yX2_mark yX2_mark, Cond.code yX2_mark cX2_mark 2 none, Cond.methodLink RX2 49 yX2_markWith, Cond.instanceMethod yX2_markWith, Cond.selects RX2 yX2_markWith yX2_markWith, Cond.code yX2_markWith cX2_markWith 4 none]
def wsX3_quantify_r3 : List Cond := [Cond.fieldLink RX2 15 "DiagramBench$Pool" "lows" "[I", Cond.fieldLink RX2 18 "DiagramBench$Pool" "highs" "[I", Cond.methodLink RX3 224 yX2_sweep, Cond.instanceMethod yX2_sweep, Cond.selects RX2 yX2_sweep yX2_sweep, Cond.code yX2_sweep cX2_sweep 2 none, Cond.fieldLink RX2 27 "DiagramBench$Pool" "rows" "[I", Cond.fieldLink RX2 30 "DiagramBench$Pool" "firstFree" "I", Cond.fieldLink RX2 34 "DiagramBench$Pool" "used" "I", Cond.fieldLink RX2 24 "DiagramBench$Pool" "next" "[I", Cond.methodLink RX2 64 yX2_enter, Cond.instanceMethod yX2_enter, Cond.selects RX2 yX2_enter yX2_enter, Cond.code yX2_enter cX2_enter 3 none, Cond.methodLink RX3 174 yX1_placeOf, Cond.instanceMethod yX1_placeOf, Cond.selects RX1 yX1_placeOf yX1_placeOf, Cond.initialized RX1, Cond.code yX1_placeOf cX1_placeOf 2 (some .int), Cond.fieldLink RX1 15 "DiagramBench$Order" "placesOf" "[I", Cond.methodLink RX3 209 yX2_makeFixed, Cond.instanceMethod yX2_makeFixed, Cond.selects RX2 yX2_makeFixed yX2_makeFixed, Cond.code yX2_makeFixed cX2_makeFixed 4 (some .int)]
def wsX3_quantify_r4 : List Cond := [Cond.methodLink RX2 91 yX2_fixFrom, Cond.instanceMethod yX2_fixFrom, Cond.selects RX2 yX2_fixFrom yX2_fixFrom, Cond.code yX2_fixFrom cX2_fixFrom 7 (some .int), Cond.fieldLink RX2 11 "DiagramBench$Pool" "places" "[I", Cond.methodLink RX2 67 yX2_nodeFor, Cond.instanceMethod yX2_nodeFor, Cond.selects RX2 yX2_nodeFor yX2_nodeFor, Cond.code yX2_nodeFor cX2_nodeFor 6 (some .int), Cond.fieldLink RX2 37 "DiagramBench$Pool" "most" "I", Cond.methodLink RX3 203 yX3_measured, Cond.instanceMethod yX3_measured, Cond.selects RX3 yX3_measured yX3_measured, Cond.code yX3_measured cX3_measured 3 (some .int), Cond.methodLink RX3 212 Lib.Math.max.name, Cond.static Lib.Math.max.name, Cond.initialized "java/lang/Math", Cond.code Lib.Math.max.name Lib.Math.max.code 2 (some .int), Cond.methodLink RX3 194 yX2_limit, Cond.instanceMethod yX2_limit, Cond.selects RX2 yX2_limit yX2_limit, Cond.code yX2_limit cX2_limit 1 (some .int), Cond.methodLink RX3 158 yX2_usedCount, Cond.instanceMethod yX2_usedCount]
def wsX3_quantify_r5 : List Cond := [Cond.selects RX2 yX2_usedCount yX2_usedCount, Cond.code yX2_usedCount cX2_usedCount 1 (some .int), Cond.methodLink RX3 149 yX3_keep, Cond.instanceMethod yX3_keep, Cond.selects RX3 yX3_keep yX3_keep, Cond.code yX3_keep cX3_keep 2 (some .int), Cond.methodLink RX3 142 yX3_kindStep, Cond.instanceMethod yX3_kindStep, Cond.selects RX3 yX3_kindStep yX3_kindStep, Cond.code yX3_kindStep cX3_kindStep 5 (some .int), Cond.fieldLink RX3 197 "DiagramBench" "TABLES" "[I", Cond.methodLink RX3 200 yX2_make, Cond.instanceMethod yX2_make, Cond.selects RX2 yX2_make yX2_make, Cond.code yX2_make cX2_make 5 (some .int), Cond.methodLink RX2 71 yX2_makeFrom, Cond.instanceMethod yX2_makeFrom, Cond.selects RX2 yX2_makeFrom yX2_makeFrom, Cond.code yX2_makeFrom cX2_makeFrom 10 (some .int), Cond.methodLink RX2 79 Lib.Math.min.name, Cond.static Lib.Math.min.name, Cond.code Lib.Math.min.name Lib.Math.min.code 2 (some .int), Cond.methodLink RX2 75 yX2_knowing, Cond.static yX2_knowing]
def wsX3_quantify_r6 : List Cond := [Cond.code yX2_knowing cX2_knowing 5 (some .int), Cond.methodLink RX2 85 yX2_lowAt, Cond.instanceMethod yX2_lowAt, Cond.selects RX2 yX2_lowAt yX2_lowAt, Cond.code yX2_lowAt cX2_lowAt 3 (some .int), Cond.methodLink RX2 88 yX2_highAt, Cond.instanceMethod yX2_highAt, Cond.selects RX2 yX2_highAt yX2_highAt, Cond.code yX2_highAt cX2_highAt 3 (some .int), Cond.methodLink RX3 133 yX3_give, Cond.instanceMethod yX3_give, Cond.selects RX3 yX3_give yX3_give, Cond.code yX3_give cX3_give 3 (some .int), Cond.methodLink RX3 188 yX3_endSteps, Cond.instanceMethod yX3_endSteps, Cond.selects RX3 yX3_endSteps yX3_endSteps, Cond.code yX3_endSteps cX3_endSteps 1 none, Cond.methodLink RX3 56 yJ7_fill_53178, Cond.methodLink RX3 152 yX2_nodeCount, Cond.instanceMethod yX2_nodeCount, Cond.selects RX2 yX2_nodeCount yX2_nodeCount, Cond.code yX2_nodeCount cX2_nodeCount 2 (some .int), Cond.methodLink RX2 53 yX2_unmark, Cond.methodLink RX2 56 yX2_mark]
def wsX3_quantify_r7 : List Cond := [Cond.methodLink RX2 60 yX2_markedWith, Cond.instanceMethod yX2_markedWith, Cond.selects RX2 yX2_markedWith yX2_markedWith, Cond.code yX2_markedWith cX2_markedWith 4 (some .int)]
def wsX3_quantify : List Cond := .code yX3_quantify cX3_quantify 7 (some .int) :: ((wsX3_quantify_r1 ++ (wsX3_quantify_r2 ++ (wsX3_quantify_r3 ++ (wsX3_quantify_r4 ++ (wsX3_quantify_r5 ++ (wsX3_quantify_r6 ++ wsX3_quantify_r7)))))) ++ wsX30 ++ wsX20 ++ wsX10)
def wsX3_compose_r1 : List Cond := [Cond.fieldLink RX3 29 "DiagramBench" "held" "[I", Cond.methodLink RX3 123 yX3_isHandle, Cond.static yX3_isHandle, Cond.initialized RX3, Cond.code yX3_isHandle cX3_isHandle 1 (some .boolean), Cond.methodLink RX3 139 yX3_hasFunction, Cond.instanceMethod yX3_hasFunction, Cond.selects RX3 yX3_hasFunction yX3_hasFunction, Cond.code yX3_hasFunction cX3_hasFunction 2 (some .boolean), Cond.methodLink RX3 70 yX3_isVariable, Cond.static yX3_isVariable, Cond.code yX3_isVariable cX3_isVariable 1 (some .boolean), Cond.methodLink RX3 126 yX3_beginSteps, Cond.instanceMethod yX3_beginSteps, Cond.selects RX3 yX3_beginSteps yX3_beginSteps, Cond.code yX3_beginSteps cX3_beginSteps 1 none, Cond.fieldLink RX3 46 "DiagramBench" "mostInUse" "I", Cond.methodLink RX3 145 yX3_fixStep, Cond.instanceMethod yX3_fixStep, Cond.selects RX3 yX3_fixStep yX3_fixStep, Cond.code yX3_fixStep cX3_fixStep 4 (some .int), Cond.fieldLink RX3 25 "DiagramBench" "pool" "LDiagramBench$Pool;", Cond.fieldLink RX3 18 "DiagramBench" "places" "LDiagramBench$Order;", Cond.methodLink RX3 155 yX3_collect]
def wsX3_compose_r2 : List Cond := [Cond.instanceMethod yX3_collect, Cond.selects RX3 yX3_collect yX3_collect, Cond.code yX3_collect cX3_collect 2 none, Cond.fieldLink RX3 33 "DiagramBench" "ofGate" "[I", Cond.fieldLink RX3 42 "DiagramBench" "keptCount" "I", Cond.fieldLink RX3 39 "DiagramBench" "kept" "[I", Cond.methodLink RX3 217 yX2_unmark, Cond.instanceMethod yX2_unmark, Cond.selects RX2 yX2_unmark yX2_unmark, Cond.initialized RX2, Cond.code yX2_unmark cX2_unmark 1 none, Cond.fieldLink RX2 21 "DiagramBench$Pool" "marks" "[I", Cond.methodLink RX2 43 yJ7_fill_53178, Cond.static yJ7_fill_53178, Cond.initialized RJ7, Cond.code yJ7_fill_53178 cJ7_fill_53178 4 none, Cond.methodLink RX3 220 yX2_mark, Cond.instanceMethod yX2_mark, Cond.selects RX2 yX2_mark yX2_mark, Cond.code yX2_mark cX2_mark 2 none, Cond.methodLink RX2 49 yX2_markWith, Cond.instanceMethod yX2_markWith, Cond.selects RX2 yX2_markWith yX2_markWith, Cond.code yX2_markWith cX2_markWith 4 none]
def wsX3_compose_r3 : List Cond := [Cond.fieldLink RX2 15 "DiagramBench$Pool" "lows" "[I", Cond.fieldLink RX2 18 "DiagramBench$Pool" "highs" "[I", Cond.methodLink RX3 224 yX2_sweep, Cond.instanceMethod yX2_sweep, Cond.selects RX2 yX2_sweep yX2_sweep, Cond.code yX2_sweep cX2_sweep 2 none, Cond.fieldLink RX2 27 "DiagramBench$Pool" "rows" "[I", Cond.fieldLink RX2 30 "DiagramBench$Pool" "firstFree" "I", Cond.fieldLink RX2 34 "DiagramBench$Pool" "used" "I", Cond.fieldLink RX2 24 "DiagramBench$Pool" "next" "[I", Cond.methodLink RX2 64 yX2_enter, Cond.instanceMethod yX2_enter, Cond.selects RX2 yX2_enter yX2_enter, Cond.code yX2_enter cX2_enter 3 none, Cond.methodLink RX3 174 yX1_placeOf, Cond.instanceMethod yX1_placeOf, Cond.selects RX1 yX1_placeOf yX1_placeOf, Cond.initialized RX1, Cond.code yX1_placeOf cX1_placeOf 2 (some .int), Cond.fieldLink RX1 15 "DiagramBench$Order" "placesOf" "[I", Cond.methodLink RX3 209 yX2_makeFixed, Cond.instanceMethod yX2_makeFixed, Cond.selects RX2 yX2_makeFixed yX2_makeFixed, Cond.code yX2_makeFixed cX2_makeFixed 4 (some .int)]
def wsX3_compose_r4 : List Cond := [Cond.methodLink RX2 91 yX2_fixFrom, Cond.instanceMethod yX2_fixFrom, Cond.selects RX2 yX2_fixFrom yX2_fixFrom, Cond.code yX2_fixFrom cX2_fixFrom 7 (some .int), Cond.fieldLink RX2 11 "DiagramBench$Pool" "places" "[I", Cond.methodLink RX2 67 yX2_nodeFor, Cond.instanceMethod yX2_nodeFor, Cond.selects RX2 yX2_nodeFor yX2_nodeFor, Cond.code yX2_nodeFor cX2_nodeFor 6 (some .int), Cond.fieldLink RX2 37 "DiagramBench$Pool" "most" "I", Cond.methodLink RX3 203 yX3_measured, Cond.instanceMethod yX3_measured, Cond.selects RX3 yX3_measured yX3_measured, Cond.code yX3_measured cX3_measured 3 (some .int), Cond.methodLink RX3 212 Lib.Math.max.name, Cond.static Lib.Math.max.name, Cond.initialized "java/lang/Math", Cond.code Lib.Math.max.name Lib.Math.max.code 2 (some .int), Cond.methodLink RX3 194 yX2_limit, Cond.instanceMethod yX2_limit, Cond.selects RX2 yX2_limit yX2_limit, Cond.code yX2_limit cX2_limit 1 (some .int), Cond.methodLink RX3 158 yX2_usedCount, Cond.instanceMethod yX2_usedCount]
def wsX3_compose_r5 : List Cond := [Cond.selects RX2 yX2_usedCount yX2_usedCount, Cond.code yX2_usedCount cX2_usedCount 1 (some .int), Cond.methodLink RX3 149 yX3_keep, Cond.instanceMethod yX3_keep, Cond.selects RX3 yX3_keep yX3_keep, Cond.code yX3_keep cX3_keep 2 (some .int), Cond.methodLink RX3 142 yX3_kindStep, Cond.instanceMethod yX3_kindStep, Cond.selects RX3 yX3_kindStep yX3_kindStep, Cond.code yX3_kindStep cX3_kindStep 5 (some .int), Cond.fieldLink RX3 197 "DiagramBench" "TABLES" "[I", Cond.methodLink RX3 200 yX2_make, Cond.instanceMethod yX2_make, Cond.selects RX2 yX2_make yX2_make, Cond.code yX2_make cX2_make 5 (some .int), Cond.methodLink RX2 71 yX2_makeFrom, Cond.instanceMethod yX2_makeFrom, Cond.selects RX2 yX2_makeFrom yX2_makeFrom, Cond.code yX2_makeFrom cX2_makeFrom 10 (some .int), Cond.methodLink RX2 79 Lib.Math.min.name, Cond.static Lib.Math.min.name, Cond.code Lib.Math.min.name Lib.Math.min.code 2 (some .int), Cond.methodLink RX2 75 yX2_knowing, Cond.static yX2_knowing]
def wsX3_compose_r6 : List Cond := [Cond.code yX2_knowing cX2_knowing 5 (some .int), Cond.methodLink RX2 85 yX2_lowAt, Cond.instanceMethod yX2_lowAt, Cond.selects RX2 yX2_lowAt yX2_lowAt, Cond.code yX2_lowAt cX2_lowAt 3 (some .int), Cond.methodLink RX2 88 yX2_highAt, Cond.instanceMethod yX2_highAt, Cond.selects RX2 yX2_highAt yX2_highAt, Cond.code yX2_highAt cX2_highAt 3 (some .int), Cond.methodLink RX3 133 yX3_give, Cond.instanceMethod yX3_give, Cond.selects RX3 yX3_give yX3_give, Cond.code yX3_give cX3_give 3 (some .int), Cond.methodLink RX3 188 yX3_endSteps, Cond.instanceMethod yX3_endSteps, Cond.selects RX3 yX3_endSteps yX3_endSteps, Cond.code yX3_endSteps cX3_endSteps 1 none, Cond.methodLink RX3 56 yJ7_fill_53178, Cond.methodLink RX3 152 yX2_nodeCount, Cond.instanceMethod yX2_nodeCount, Cond.selects RX2 yX2_nodeCount yX2_nodeCount, Cond.code yX2_nodeCount cX2_nodeCount 2 (some .int), Cond.methodLink RX2 53 yX2_unmark, Cond.methodLink RX2 56 yX2_mark]
def wsX3_compose_r7 : List Cond := [Cond.methodLink RX2 60 yX2_markedWith, Cond.instanceMethod yX2_markedWith, Cond.selects RX2 yX2_markedWith yX2_markedWith, Cond.code yX2_markedWith cX2_markedWith 4 (some .int)]
def wsX3_compose : List Cond := .code yX3_compose cX3_compose 7 (some .int) :: ((wsX3_compose_r1 ++ (wsX3_compose_r2 ++ (wsX3_compose_r3 ++ (wsX3_compose_r4 ++ (wsX3_compose_r5 ++ (wsX3_compose_r6 ++ wsX3_compose_r7)))))) ++ wsX30 ++ wsX20 ++ wsX10)
def wsX3_share : List Cond := .code yX3_share cX3_share 3 (some .int) :: ([.fieldLink RX3 29 "DiagramBench" "held" "[I", .methodLink RX3 123 yX3_isHandle, .static yX3_isHandle, .initialized RX3, .code yX3_isHandle cX3_isHandle 1 (some .boolean), .methodLink RX3 139 yX3_hasFunction, .instanceMethod yX3_hasFunction, .selects RX3 yX3_hasFunction yX3_hasFunction, .code yX3_hasFunction cX3_hasFunction 2 (some .boolean)] ++ wsX30)
def wsX3_drop : List Cond := .code yX3_drop cX3_drop 3 (some .int) :: ([.fieldLink RX3 29 "DiagramBench" "held" "[I", .methodLink RX3 123 yX3_isHandle, .static yX3_isHandle, .initialized RX3, .code yX3_isHandle cX3_isHandle 1 (some .boolean)] ++ wsX30)
def wsX3_nodes_r1 : List Cond := [Cond.fieldLink RX3 25 "DiagramBench" "pool" "LDiagramBench$Pool;", Cond.fieldLink RX3 29 "DiagramBench" "held" "[I", Cond.methodLink RX3 139 yX3_hasFunction, Cond.instanceMethod yX3_hasFunction, Cond.selects RX3 yX3_hasFunction yX3_hasFunction, Cond.initialized RX3, Cond.code yX3_hasFunction cX3_hasFunction 2 (some .boolean), Cond.methodLink RX3 123 yX3_isHandle, Cond.static yX3_isHandle, Cond.code yX3_isHandle cX3_isHandle 1 (some .boolean), Cond.methodLink RX3 152 yX2_nodeCount, Cond.instanceMethod yX2_nodeCount, Cond.selects RX2 yX2_nodeCount yX2_nodeCount, Cond.initialized RX2, Cond.code yX2_nodeCount cX2_nodeCount 2 (some .int), Cond.methodLink RX2 53 yX2_unmark, Cond.instanceMethod yX2_unmark, Cond.selects RX2 yX2_unmark yX2_unmark, Cond.code yX2_unmark cX2_unmark 1 none, Cond.fieldLink RX2 21 "DiagramBench$Pool" "marks" "[I", Cond.methodLink RX2 43 yJ7_fill_53178, Cond.static yJ7_fill_53178, Cond.initialized RJ7, Cond.code yJ7_fill_53178 cJ7_fill_53178 4 none]
def wsX3_nodes_r2 : List Cond := [Cond.methodLink RX2 56 yX2_mark, Cond.instanceMethod yX2_mark, Cond.selects RX2 yX2_mark yX2_mark, Cond.code yX2_mark cX2_mark 2 none, Cond.methodLink RX2 49 yX2_markWith, Cond.instanceMethod yX2_markWith, Cond.selects RX2 yX2_markWith yX2_markWith, Cond.code yX2_markWith cX2_markWith 4 none, Cond.fieldLink RX2 15 "DiagramBench$Pool" "lows" "[I", Cond.fieldLink RX2 18 "DiagramBench$Pool" "highs" "[I", Cond.methodLink RX2 60 yX2_markedWith, Cond.instanceMethod yX2_markedWith, Cond.selects RX2 yX2_markedWith yX2_markedWith, Cond.code yX2_markedWith cX2_markedWith 4 (some .int)]
def wsX3_nodes : List Cond := .code yX3_nodes cX3_nodes 2 (some .int) :: ((wsX3_nodes_r1 ++ wsX3_nodes_r2) ++ wsX30 ++ wsX20)
def wsX3_common_r1 : List Cond := [Cond.fieldLink RX3 25 "DiagramBench" "pool" "LDiagramBench$Pool;", Cond.fieldLink RX3 29 "DiagramBench" "held" "[I", Cond.methodLink RX3 139 yX3_hasFunction, Cond.instanceMethod yX3_hasFunction, Cond.selects RX3 yX3_hasFunction yX3_hasFunction, Cond.initialized RX3, Cond.code yX3_hasFunction cX3_hasFunction 2 (some .boolean), Cond.methodLink RX3 123 yX3_isHandle, Cond.static yX3_isHandle, Cond.code yX3_isHandle cX3_isHandle 1 (some .boolean), Cond.methodLink RX3 161 yX2_commonCount, Cond.instanceMethod yX2_commonCount, Cond.selects RX2 yX2_commonCount yX2_commonCount, Cond.initialized RX2, Cond.code yX2_commonCount cX2_commonCount 3 (some .int), Cond.methodLink RX2 53 yX2_unmark, Cond.instanceMethod yX2_unmark, Cond.selects RX2 yX2_unmark yX2_unmark, Cond.code yX2_unmark cX2_unmark 1 none, Cond.fieldLink RX2 21 "DiagramBench$Pool" "marks" "[I", Cond.methodLink RX2 43 yJ7_fill_53178, Cond.static yJ7_fill_53178, Cond.initialized RJ7, Cond.code yJ7_fill_53178 cJ7_fill_53178 4 none]
def wsX3_common_r2 : List Cond := [Cond.methodLink RX2 49 yX2_markWith, Cond.instanceMethod yX2_markWith, Cond.selects RX2 yX2_markWith yX2_markWith, Cond.code yX2_markWith cX2_markWith 4 none, Cond.fieldLink RX2 15 "DiagramBench$Pool" "lows" "[I", Cond.fieldLink RX2 18 "DiagramBench$Pool" "highs" "[I", Cond.methodLink RX2 60 yX2_markedWith, Cond.instanceMethod yX2_markedWith, Cond.selects RX2 yX2_markedWith yX2_markedWith, Cond.code yX2_markedWith cX2_markedWith 4 (some .int)]
def wsX3_common : List Cond := .code yX3_common cX3_common 3 (some .int) :: ((wsX3_common_r1 ++ wsX3_common_r2) ++ wsX30 ++ wsX20)
def wsX3_peak : List Cond := .code yX3_peak cX3_peak 1 (some .int) :: ([.fieldLink RX3 46 "DiagramBench" "mostInUse" "I"] ++ wsX30)
def wsX3_value_r1 : List Cond := [Cond.fieldLink RX3 25 "DiagramBench" "pool" "LDiagramBench$Pool;", Cond.fieldLink RX3 29 "DiagramBench" "held" "[I", Cond.fieldLink RX3 18 "DiagramBench" "places" "LDiagramBench$Order;", Cond.methodLink RX3 139 yX3_hasFunction, Cond.instanceMethod yX3_hasFunction, Cond.selects RX3 yX3_hasFunction yX3_hasFunction, Cond.initialized RX3, Cond.code yX3_hasFunction cX3_hasFunction 2 (some .boolean), Cond.methodLink RX3 123 yX3_isHandle, Cond.static yX3_isHandle, Cond.code yX3_isHandle cX3_isHandle 1 (some .boolean), Cond.methodLink RX3 91 yX3_isAssignment, Cond.static yX3_isAssignment, Cond.code yX3_isAssignment cX3_isAssignment 1 (some .boolean), Cond.methodLink RX3 164 yX2_valueFor, Cond.instanceMethod yX2_valueFor, Cond.selects RX2 yX2_valueFor yX2_valueFor, Cond.initialized RX2, Cond.code yX2_valueFor cX2_valueFor 7 (some .int), Cond.fieldLink RX2 11 "DiagramBench$Pool" "places" "[I", Cond.fieldLink RX2 18 "DiagramBench$Pool" "highs" "[I", Cond.fieldLink RX2 15 "DiagramBench$Pool" "lows" "[I", Cond.methodLink RX2 95 yX1_variableAt, Cond.instanceMethod yX1_variableAt]
def wsX3_value_r2 : List Cond := [Cond.selects RX1 yX1_variableAt yX1_variableAt, Cond.initialized RX1, Cond.code yX1_variableAt cX1_variableAt 2 (some .int), Cond.fieldLink RX1 9 "DiagramBench$Order" "variables" "[I"]
def wsX3_value : List Cond := .code yX3_value cX3_value 3 (some .int) :: ((wsX3_value_r1 ++ wsX3_value_r2) ++ wsX30 ++ wsX20 ++ wsX10)
def wsX3_same : List Cond := .code yX3_same cX3_same 3 (some .int) :: ([.fieldLink RX3 29 "DiagramBench" "held" "[I", .methodLink RX3 139 yX3_hasFunction, .instanceMethod yX3_hasFunction, .selects RX3 yX3_hasFunction yX3_hasFunction, .initialized RX3, .code yX3_hasFunction cX3_hasFunction 2 (some .boolean), .methodLink RX3 123 yX3_isHandle, .static yX3_isHandle, .code yX3_isHandle cX3_isHandle 1 (some .boolean)] ++ wsX30)
def wsX3_count_r1 : List Cond := [Cond.fieldLink RX3 25 "DiagramBench" "pool" "LDiagramBench$Pool;", Cond.fieldLink RX3 29 "DiagramBench" "held" "[I", Cond.fieldLink RX3 18 "DiagramBench" "places" "LDiagramBench$Order;", Cond.methodLink RX3 139 yX3_hasFunction, Cond.instanceMethod yX3_hasFunction, Cond.selects RX3 yX3_hasFunction yX3_hasFunction, Cond.initialized RX3, Cond.code yX3_hasFunction cX3_hasFunction 2 (some .boolean), Cond.methodLink RX3 123 yX3_isHandle, Cond.static yX3_isHandle, Cond.code yX3_isHandle cX3_isHandle 1 (some .boolean), Cond.methodLink RX3 164 yX2_valueFor, Cond.instanceMethod yX2_valueFor, Cond.selects RX2 yX2_valueFor yX2_valueFor, Cond.initialized RX2, Cond.code yX2_valueFor cX2_valueFor 7 (some .int), Cond.fieldLink RX2 11 "DiagramBench$Pool" "places" "[I", Cond.fieldLink RX2 18 "DiagramBench$Pool" "highs" "[I", Cond.fieldLink RX2 15 "DiagramBench$Pool" "lows" "[I", Cond.methodLink RX2 95 yX1_variableAt, Cond.instanceMethod yX1_variableAt, Cond.selects RX1 yX1_variableAt yX1_variableAt, Cond.initialized RX1, Cond.code yX1_variableAt cX1_variableAt 2 (some .int)]
def wsX3_count_r2 : List Cond := [Cond.fieldLink RX1 9 "DiagramBench$Order" "variables" "[I"]
def wsX3_count : List Cond := .code yX3_count cX3_count 4 (some .int) :: ((wsX3_count_r1 ++ wsX3_count_r2) ++ wsX30 ++ wsX20 ++ wsX10)
def wsX3_support_r1 : List Cond := [Cond.fieldLink RX3 25 "DiagramBench" "pool" "LDiagramBench$Pool;", Cond.fieldLink RX3 29 "DiagramBench" "held" "[I", Cond.fieldLink RX3 18 "DiagramBench" "places" "LDiagramBench$Order;", Cond.methodLink RX3 139 yX3_hasFunction, Cond.instanceMethod yX3_hasFunction, Cond.selects RX3 yX3_hasFunction yX3_hasFunction, Cond.initialized RX3, Cond.code yX3_hasFunction cX3_hasFunction 2 (some .boolean), Cond.methodLink RX3 123 yX3_isHandle, Cond.static yX3_isHandle, Cond.code yX3_isHandle cX3_isHandle 1 (some .boolean), Cond.methodLink RX3 168 yX2_nodeCountAt, Cond.instanceMethod yX2_nodeCountAt, Cond.selects RX2 yX2_nodeCountAt yX2_nodeCountAt, Cond.initialized RX2, Cond.code yX2_nodeCountAt cX2_nodeCountAt 5 (some .int), Cond.fieldLink RX2 21 "DiagramBench$Pool" "marks" "[I", Cond.fieldLink RX2 11 "DiagramBench$Pool" "places" "[I", Cond.methodLink RX2 53 yX2_unmark, Cond.instanceMethod yX2_unmark, Cond.selects RX2 yX2_unmark yX2_unmark, Cond.code yX2_unmark cX2_unmark 1 none, Cond.methodLink RX2 43 yJ7_fill_53178, Cond.static yJ7_fill_53178]
def wsX3_support_r2 : List Cond := [Cond.initialized RJ7, Cond.code yJ7_fill_53178 cJ7_fill_53178 4 none, Cond.methodLink RX2 56 yX2_mark, Cond.instanceMethod yX2_mark, Cond.selects RX2 yX2_mark yX2_mark, Cond.code yX2_mark cX2_mark 2 none, Cond.methodLink RX2 49 yX2_markWith, Cond.instanceMethod yX2_markWith, Cond.selects RX2 yX2_markWith yX2_markWith, Cond.code yX2_markWith cX2_markWith 4 none, Cond.fieldLink RX2 15 "DiagramBench$Pool" "lows" "[I", Cond.fieldLink RX2 18 "DiagramBench$Pool" "highs" "[I", Cond.methodLink RX3 114 yX1_variableAt, Cond.instanceMethod yX1_variableAt, Cond.selects RX1 yX1_variableAt yX1_variableAt, Cond.initialized RX1, Cond.code yX1_variableAt cX1_variableAt 2 (some .int), Cond.fieldLink RX1 9 "DiagramBench$Order" "variables" "[I"]
def wsX3_support : List Cond := .code yX3_support cX3_support 4 (some .int) :: ((wsX3_support_r1 ++ wsX3_support_r2) ++ wsX30 ++ wsX20 ++ wsX10)
def wsX3_top : List Cond := .code yX3_top cX3_top 3 (some .int) :: ([.fieldLink RX3 25 "DiagramBench" "pool" "LDiagramBench$Pool;", .fieldLink RX3 29 "DiagramBench" "held" "[I", .fieldLink RX3 18 "DiagramBench" "places" "LDiagramBench$Order;", .methodLink RX3 139 yX3_hasFunction, .instanceMethod yX3_hasFunction, .selects RX3 yX3_hasFunction yX3_hasFunction, .initialized RX3, .code yX3_hasFunction cX3_hasFunction 2 (some .boolean), .methodLink RX3 123 yX3_isHandle, .static yX3_isHandle, .code yX3_isHandle cX3_isHandle 1 (some .boolean), .methodLink RX3 171 yX2_placeOf, .instanceMethod yX2_placeOf, .selects RX2 yX2_placeOf yX2_placeOf, .initialized RX2, .code yX2_placeOf cX2_placeOf 2 (some .int), .fieldLink RX2 11 "DiagramBench$Pool" "places" "[I", .methodLink RX3 114 yX1_variableAt, .instanceMethod yX1_variableAt, .selects RX1 yX1_variableAt yX1_variableAt, .initialized RX1, .code yX1_variableAt cX1_variableAt 2 (some .int), .fieldLink RX1 9 "DiagramBench$Order" "variables" "[I"] ++ wsX30 ++ wsX20 ++ wsX10)
def wsX3_level_r1 : List Cond := [Cond.fieldLink RX3 25 "DiagramBench" "pool" "LDiagramBench$Pool;", Cond.fieldLink RX3 29 "DiagramBench" "held" "[I", Cond.fieldLink RX3 18 "DiagramBench" "places" "LDiagramBench$Order;", Cond.methodLink RX3 139 yX3_hasFunction, Cond.instanceMethod yX3_hasFunction, Cond.selects RX3 yX3_hasFunction yX3_hasFunction, Cond.initialized RX3, Cond.code yX3_hasFunction cX3_hasFunction 2 (some .boolean), Cond.methodLink RX3 123 yX3_isHandle, Cond.static yX3_isHandle, Cond.code yX3_isHandle cX3_isHandle 1 (some .boolean), Cond.methodLink RX3 70 yX3_isVariable, Cond.static yX3_isVariable, Cond.code yX3_isVariable cX3_isVariable 1 (some .boolean), Cond.methodLink RX3 174 yX1_placeOf, Cond.instanceMethod yX1_placeOf, Cond.selects RX1 yX1_placeOf yX1_placeOf, Cond.initialized RX1, Cond.code yX1_placeOf cX1_placeOf 2 (some .int), Cond.fieldLink RX1 15 "DiagramBench$Order" "placesOf" "[I", Cond.methodLink RX3 168 yX2_nodeCountAt, Cond.instanceMethod yX2_nodeCountAt, Cond.selects RX2 yX2_nodeCountAt yX2_nodeCountAt, Cond.initialized RX2]
def wsX3_level_r2 : List Cond := [Cond.code yX2_nodeCountAt cX2_nodeCountAt 5 (some .int), Cond.fieldLink RX2 21 "DiagramBench$Pool" "marks" "[I", Cond.fieldLink RX2 11 "DiagramBench$Pool" "places" "[I", Cond.methodLink RX2 53 yX2_unmark, Cond.instanceMethod yX2_unmark, Cond.selects RX2 yX2_unmark yX2_unmark, Cond.code yX2_unmark cX2_unmark 1 none, Cond.methodLink RX2 43 yJ7_fill_53178, Cond.static yJ7_fill_53178, Cond.initialized RJ7, Cond.code yJ7_fill_53178 cJ7_fill_53178 4 none, Cond.methodLink RX2 56 yX2_mark, Cond.instanceMethod yX2_mark, Cond.selects RX2 yX2_mark yX2_mark, Cond.code yX2_mark cX2_mark 2 none, Cond.methodLink RX2 49 yX2_markWith, Cond.instanceMethod yX2_markWith, Cond.selects RX2 yX2_markWith yX2_markWith, Cond.code yX2_markWith cX2_markWith 4 none, Cond.fieldLink RX2 15 "DiagramBench$Pool" "lows" "[I", Cond.fieldLink RX2 18 "DiagramBench$Pool" "highs" "[I"]
def wsX3_level : List Cond := .code yX3_level cX3_level 3 (some .int) :: ((wsX3_level_r1 ++ wsX3_level_r2) ++ wsX30 ++ wsX10 ++ wsX20)
def wsX3_least_r1 : List Cond := [Cond.fieldLink RX3 25 "DiagramBench" "pool" "LDiagramBench$Pool;", Cond.fieldLink RX3 29 "DiagramBench" "held" "[I", Cond.fieldLink RX3 18 "DiagramBench" "places" "LDiagramBench$Order;", Cond.methodLink RX3 139 yX3_hasFunction, Cond.instanceMethod yX3_hasFunction, Cond.selects RX3 yX3_hasFunction yX3_hasFunction, Cond.initialized RX3, Cond.code yX3_hasFunction cX3_hasFunction 2 (some .boolean), Cond.methodLink RX3 123 yX3_isHandle, Cond.static yX3_isHandle, Cond.code yX3_isHandle cX3_isHandle 1 (some .boolean), Cond.methodLink RX3 175 yX2_leastFor, Cond.instanceMethod yX2_leastFor, Cond.selects RX2 yX2_leastFor yX2_leastFor, Cond.initialized RX2, Cond.code yX2_leastFor cX2_leastFor 7 (some .int), Cond.fieldLink RX2 15 "DiagramBench$Pool" "lows" "[I", Cond.fieldLink RX2 11 "DiagramBench$Pool" "places" "[I", Cond.fieldLink RX2 18 "DiagramBench$Pool" "highs" "[I", Cond.methodLink RX2 95 yX1_variableAt, Cond.instanceMethod yX1_variableAt, Cond.selects RX1 yX1_variableAt yX1_variableAt, Cond.initialized RX1, Cond.code yX1_variableAt cX1_variableAt 2 (some .int)]
def wsX3_least_r2 : List Cond := [Cond.fieldLink RX1 9 "DiagramBench$Order" "variables" "[I"]
def wsX3_least : List Cond := .code yX3_least cX3_least 3 (some .int) :: ((wsX3_least_r1 ++ wsX3_least_r2) ++ wsX30 ++ wsX20 ++ wsX10)
def wsX3_paths : List Cond := .code yX3_paths cX3_paths 3 (some .int) :: ([.fieldLink RX3 25 "DiagramBench" "pool" "LDiagramBench$Pool;", .fieldLink RX3 29 "DiagramBench" "held" "[I", .methodLink RX3 139 yX3_hasFunction, .instanceMethod yX3_hasFunction, .selects RX3 yX3_hasFunction yX3_hasFunction, .initialized RX3, .code yX3_hasFunction cX3_hasFunction 2 (some .boolean), .methodLink RX3 123 yX3_isHandle, .static yX3_isHandle, .code yX3_isHandle cX3_isHandle 1 (some .boolean), .methodLink RX3 178 yX2_pathCount, .instanceMethod yX2_pathCount, .selects RX2 yX2_pathCount yX2_pathCount, .initialized RX2, .code yX2_pathCount cX2_pathCount 3 (some .int), .methodLink RX2 100 yX2_pathsFrom, .instanceMethod yX2_pathsFrom, .selects RX2 yX2_pathsFrom yX2_pathsFrom, .code yX2_pathsFrom cX2_pathsFrom 4 (some .int), .fieldLink RX2 15 "DiagramBench$Pool" "lows" "[I", .fieldLink RX2 18 "DiagramBench$Pool" "highs" "[I"] ++ wsX30 ++ wsX20)
def wsX3_notePart : List Cond := .code yX3_notePart cX3_notePart 3 none :: ([.fieldLink RX3 49 "DiagramBench" "partedOutput" "I", .fieldLink RX3 25 "DiagramBench" "pool" "LDiagramBench$Pool;", .fieldLink RX3 18 "DiagramBench" "places" "LDiagramBench$Order;", .fieldLink RX3 52 "DiagramBench" "partedAssignment" "I", .methodLink RX3 175 yX2_leastFor, .instanceMethod yX2_leastFor, .selects RX2 yX2_leastFor yX2_leastFor, .initialized RX2, .code yX2_leastFor cX2_leastFor 7 (some .int), .fieldLink RX2 15 "DiagramBench$Pool" "lows" "[I", .fieldLink RX2 11 "DiagramBench$Pool" "places" "[I", .fieldLink RX2 18 "DiagramBench$Pool" "highs" "[I", .methodLink RX2 95 yX1_variableAt, .instanceMethod yX1_variableAt, .selects RX1 yX1_variableAt yX1_variableAt, .initialized RX1, .code yX1_variableAt cX1_variableAt 2 (some .int), .fieldLink RX1 9 "DiagramBench$Order" "variables" "[I"] ++ wsX30 ++ wsX20 ++ wsX10)
def wsX3_equal_r1 : List Cond := [Cond.fieldLink RX3 11 "DiagramBench" "nets" "[LDiagramBench$Net;", Cond.methodLink RX3 62 yX3_isNet, Cond.static yX3_isNet, Cond.initialized RX3, Cond.code yX3_isNet cX3_isNet 1 (some .boolean), Cond.methodLink RX3 181 yX0_outputCount, Cond.instanceMethod yX0_outputCount, Cond.selects RX0 yX0_outputCount yX0_outputCount, Cond.initialized RX0, Cond.code yX0_outputCount cX0_outputCount 1 (some .int), Cond.fieldLink RX0 28 "DiagramBench$Net" "outputs" "I", Cond.methodLink RX3 126 yX3_beginSteps, Cond.instanceMethod yX3_beginSteps, Cond.selects RX3 yX3_beginSteps yX3_beginSteps, Cond.code yX3_beginSteps cX3_beginSteps 1 none, Cond.fieldLink RX3 46 "DiagramBench" "mostInUse" "I", Cond.methodLink RX3 129 yX3_building, Cond.instanceMethod yX3_building, Cond.selects RX3 yX3_building yX3_building, Cond.code yX3_building cX3_building 7 (some .int), Cond.fieldLink RX3 36 "DiagramBench" "lastNeed" "[I", Cond.fieldLink RX3 33 "DiagramBench" "ofGate" "[I", Cond.methodLink RX3 227 yX0_findNeeds, Cond.instanceMethod yX0_findNeeds]
def wsX3_equal_r2 : List Cond := [Cond.selects RX0 yX0_findNeeds yX0_findNeeds, Cond.code yX0_findNeeds cX0_findNeeds 5 (some .int), Cond.fieldLink RX0 18 "DiagramBench$Net" "outputGates" "[I", Cond.methodLink RX0 48 yJ7_fill_53178, Cond.static yJ7_fill_53178, Cond.initialized RJ7, Cond.code yJ7_fill_53178 cJ7_fill_53178 4 none, Cond.methodLink RX0 54 yX0_noteNeedsOf, Cond.instanceMethod yX0_noteNeedsOf, Cond.selects RX0 yX0_noteNeedsOf yX0_noteNeedsOf, Cond.code yX0_noteNeedsOf cX0_noteNeedsOf 5 none, Cond.fieldLink RX0 9 "DiagramBench$Net" "kinds" "[I", Cond.methodLink RX0 42 yX0_operand, Cond.instanceMethod yX0_operand, Cond.selects RX0 yX0_operand yX0_operand, Cond.code yX0_operand cX0_operand 3 (some .int), Cond.fieldLink RX0 15 "DiagramBench$Net" "operands" "[I", Cond.methodLink RX3 231 yX0_kindOf, Cond.instanceMethod yX0_kindOf, Cond.selects RX0 yX0_kindOf yX0_kindOf, Cond.code yX0_kindOf cX0_kindOf 2 (some .int), Cond.methodLink RX3 234 yX0_operand, Cond.methodLink RX3 136 yX3_variableStep, Cond.instanceMethod yX3_variableStep]
def wsX3_equal_r3 : List Cond := [Cond.selects RX3 yX3_variableStep yX3_variableStep, Cond.code yX3_variableStep cX3_variableStep 2 (some .int), Cond.fieldLink RX3 25 "DiagramBench" "pool" "LDiagramBench$Pool;", Cond.fieldLink RX3 18 "DiagramBench" "places" "LDiagramBench$Order;", Cond.methodLink RX3 155 yX3_collect, Cond.instanceMethod yX3_collect, Cond.selects RX3 yX3_collect yX3_collect, Cond.code yX3_collect cX3_collect 2 none, Cond.fieldLink RX3 29 "DiagramBench" "held" "[I", Cond.fieldLink RX3 42 "DiagramBench" "keptCount" "I", Cond.fieldLink RX3 39 "DiagramBench" "kept" "[I", Cond.methodLink RX3 217 yX2_unmark, Cond.instanceMethod yX2_unmark, Cond.selects RX2 yX2_unmark yX2_unmark, Cond.initialized RX2, Cond.code yX2_unmark cX2_unmark 1 none, Cond.fieldLink RX2 21 "DiagramBench$Pool" "marks" "[I", Cond.methodLink RX2 43 yJ7_fill_53178, Cond.methodLink RX3 220 yX2_mark, Cond.instanceMethod yX2_mark, Cond.selects RX2 yX2_mark yX2_mark, Cond.code yX2_mark cX2_mark 2 none, Cond.methodLink RX2 49 yX2_markWith, Cond.instanceMethod yX2_markWith]
def wsX3_equal_r4 : List Cond := [Cond.selects RX2 yX2_markWith yX2_markWith, Cond.code yX2_markWith cX2_markWith 4 none, Cond.fieldLink RX2 15 "DiagramBench$Pool" "lows" "[I", Cond.fieldLink RX2 18 "DiagramBench$Pool" "highs" "[I", Cond.methodLink RX3 224 yX2_sweep, Cond.instanceMethod yX2_sweep, Cond.selects RX2 yX2_sweep yX2_sweep, Cond.code yX2_sweep cX2_sweep 2 none, Cond.fieldLink RX2 27 "DiagramBench$Pool" "rows" "[I", Cond.fieldLink RX2 30 "DiagramBench$Pool" "firstFree" "I", Cond.fieldLink RX2 34 "DiagramBench$Pool" "used" "I", Cond.fieldLink RX2 24 "DiagramBench$Pool" "next" "[I", Cond.methodLink RX2 64 yX2_enter, Cond.instanceMethod yX2_enter, Cond.selects RX2 yX2_enter yX2_enter, Cond.code yX2_enter cX2_enter 3 none, Cond.methodLink RX3 174 yX1_placeOf, Cond.instanceMethod yX1_placeOf, Cond.selects RX1 yX1_placeOf yX1_placeOf, Cond.initialized RX1, Cond.code yX1_placeOf cX1_placeOf 2 (some .int), Cond.fieldLink RX1 15 "DiagramBench$Order" "placesOf" "[I", Cond.methodLink RX3 206 yX2_makeVariable, Cond.instanceMethod yX2_makeVariable]
def wsX3_equal_r5 : List Cond := [Cond.selects RX2 yX2_makeVariable yX2_makeVariable, Cond.code yX2_makeVariable cX2_makeVariable 2 (some .int), Cond.methodLink RX2 67 yX2_nodeFor, Cond.instanceMethod yX2_nodeFor, Cond.selects RX2 yX2_nodeFor yX2_nodeFor, Cond.code yX2_nodeFor cX2_nodeFor 6 (some .int), Cond.fieldLink RX2 11 "DiagramBench$Pool" "places" "[I", Cond.fieldLink RX2 37 "DiagramBench$Pool" "most" "I", Cond.methodLink RX3 203 yX3_measured, Cond.instanceMethod yX3_measured, Cond.selects RX3 yX3_measured yX3_measured, Cond.code yX3_measured cX3_measured 3 (some .int), Cond.methodLink RX3 212 Lib.Math.max.name, Cond.static Lib.Math.max.name, Cond.initialized "java/lang/Math", Cond.code Lib.Math.max.name Lib.Math.max.code 2 (some .int), Cond.methodLink RX3 194 yX2_limit, Cond.instanceMethod yX2_limit, Cond.selects RX2 yX2_limit yX2_limit, Cond.code yX2_limit cX2_limit 1 (some .int), Cond.methodLink RX3 158 yX2_usedCount, Cond.instanceMethod yX2_usedCount, Cond.selects RX2 yX2_usedCount yX2_usedCount, Cond.code yX2_usedCount cX2_usedCount 1 (some .int)]
def wsX3_equal_r6 : List Cond := [Cond.methodLink RX3 237 yX3_madeFor, Cond.instanceMethod yX3_madeFor, Cond.selects RX3 yX3_madeFor yX3_madeFor, Cond.code yX3_madeFor cX3_madeFor 4 (some .int), Cond.fieldLink RX3 245 "DiagramBench" "OPERANDS" "[I", Cond.methodLink RX3 142 yX3_kindStep, Cond.instanceMethod yX3_kindStep, Cond.selects RX3 yX3_kindStep yX3_kindStep, Cond.code yX3_kindStep cX3_kindStep 5 (some .int), Cond.fieldLink RX3 197 "DiagramBench" "TABLES" "[I", Cond.methodLink RX3 200 yX2_make, Cond.instanceMethod yX2_make, Cond.selects RX2 yX2_make yX2_make, Cond.code yX2_make cX2_make 5 (some .int), Cond.methodLink RX2 71 yX2_makeFrom, Cond.instanceMethod yX2_makeFrom, Cond.selects RX2 yX2_makeFrom yX2_makeFrom, Cond.code yX2_makeFrom cX2_makeFrom 10 (some .int), Cond.methodLink RX2 79 Lib.Math.min.name, Cond.static Lib.Math.min.name, Cond.code Lib.Math.min.name Lib.Math.min.code 2 (some .int), Cond.methodLink RX2 75 yX2_knowing, Cond.static yX2_knowing, Cond.code yX2_knowing cX2_knowing 5 (some .int)]
def wsX3_equal_r7 : List Cond := [Cond.methodLink RX2 85 yX2_lowAt, Cond.instanceMethod yX2_lowAt, Cond.selects RX2 yX2_lowAt yX2_lowAt, Cond.code yX2_lowAt cX2_lowAt 3 (some .int), Cond.methodLink RX2 88 yX2_highAt, Cond.instanceMethod yX2_highAt, Cond.selects RX2 yX2_highAt yX2_highAt, Cond.code yX2_highAt cX2_highAt 3 (some .int), Cond.methodLink RX3 241 yX3_letGoBehind, Cond.instanceMethod yX3_letGoBehind, Cond.selects RX3 yX3_letGoBehind yX3_letGoBehind, Cond.code yX3_letGoBehind cX3_letGoBehind 6 none, Cond.methodLink RX3 149 yX3_keep, Cond.instanceMethod yX3_keep, Cond.selects RX3 yX3_keep yX3_keep, Cond.code yX3_keep cX3_keep 2 (some .int), Cond.methodLink RX3 184 yX3_notePart, Cond.instanceMethod yX3_notePart, Cond.selects RX3 yX3_notePart yX3_notePart, Cond.code yX3_notePart cX3_notePart 3 none, Cond.fieldLink RX3 49 "DiagramBench" "partedOutput" "I", Cond.fieldLink RX3 52 "DiagramBench" "partedAssignment" "I", Cond.methodLink RX3 175 yX2_leastFor, Cond.instanceMethod yX2_leastFor]
def wsX3_equal_r8 : List Cond := [Cond.selects RX2 yX2_leastFor yX2_leastFor, Cond.code yX2_leastFor cX2_leastFor 7 (some .int), Cond.methodLink RX2 95 yX1_variableAt, Cond.instanceMethod yX1_variableAt, Cond.selects RX1 yX1_variableAt yX1_variableAt, Cond.code yX1_variableAt cX1_variableAt 2 (some .int), Cond.fieldLink RX1 9 "DiagramBench$Order" "variables" "[I", Cond.methodLink RX3 188 yX3_endSteps, Cond.instanceMethod yX3_endSteps, Cond.selects RX3 yX3_endSteps yX3_endSteps, Cond.code yX3_endSteps cX3_endSteps 1 none, Cond.methodLink RX3 56 yJ7_fill_53178]
def wsX3_equal : List Cond := .code yX3_equal cX3_equal 8 (some .int) :: ((wsX3_equal_r1 ++ (wsX3_equal_r2 ++ (wsX3_equal_r3 ++ (wsX3_equal_r4 ++ (wsX3_equal_r5 ++ (wsX3_equal_r6 ++ (wsX3_equal_r7 ++ wsX3_equal_r8))))))) ++ wsX30 ++ wsX00 ++ wsX20 ++ wsX10)
def wsX3_parting : List Cond := .code yX3_parting cX3_parting 2 (some .int) :: ([.fieldLink RX3 49 "DiagramBench" "partedOutput" "I", .fieldLink RX3 52 "DiagramBench" "partedAssignment" "I"] ++ wsX30)
def wsX3_told_r1 : List Cond := [Cond.fieldLink RX3 11 "DiagramBench" "nets" "[LDiagramBench$Net;", Cond.fieldLink RX3 25 "DiagramBench" "pool" "LDiagramBench$Pool;", Cond.methodLink RX3 191 yX0_gateCount, Cond.instanceMethod yX0_gateCount, Cond.selects RX0 yX0_gateCount yX0_gateCount, Cond.initialized RX0, Cond.code yX0_gateCount cX0_gateCount 1 (some .int), Cond.fieldLink RX0 24 "DiagramBench$Net" "gates" "I", Cond.methodLink RX3 181 yX0_outputCount, Cond.instanceMethod yX0_outputCount, Cond.selects RX0 yX0_outputCount yX0_outputCount, Cond.code yX0_outputCount cX0_outputCount 1 (some .int), Cond.fieldLink RX0 28 "DiagramBench$Net" "outputs" "I", Cond.methodLink RX3 98 yX3_heldCount, Cond.instanceMethod yX3_heldCount, Cond.selects RX3 yX3_heldCount yX3_heldCount, Cond.initialized RX3, Cond.code yX3_heldCount cX3_heldCount 3 (some .int), Cond.fieldLink RX3 29 "DiagramBench" "held" "[I", Cond.methodLink RX3 194 yX2_limit, Cond.instanceMethod yX2_limit, Cond.selects RX2 yX2_limit yX2_limit, Cond.initialized RX2, Cond.code yX2_limit cX2_limit 1 (some .int)]
def wsX3_told_r2 : List Cond := [Cond.fieldLink RX2 37 "DiagramBench$Pool" "most" "I"]
def wsX3_told : List Cond := .code yX3_told cX3_told 2 (some .int) :: ((wsX3_told_r1 ++ wsX3_told_r2) ++ wsX30 ++ wsX00 ++ wsX20)
def wsX4_init_r1 : List Cond := [Cond.methodLink RX4 1 objectInit, Cond.instanceMethod objectInit, Cond.code objectInit ⟨#[0xb1]⟩ 1 none, Cond.arrayClass .int, Cond.fieldLink RX4 7 "DiagramBenchModel" "gates" "[I", Cond.fieldLink RX4 13 "DiagramBenchModel" "outputs" "[I", Cond.fieldLink RX4 16 "DiagramBenchModel" "kind" "[I", Cond.fieldLink RX4 19 "DiagramBenchModel" "of" "[I", Cond.fieldLink RX4 22 "DiagramBenchModel" "outputAt" "[I", Cond.arrayClass .boolean, Cond.fieldLink RX4 25 "DiagramBenchModel" "on" "[Z", Cond.fieldLink RX4 29 "DiagramBenchModel" "order" "[I", Cond.fieldLink RX4 32 "DiagramBenchModel" "placeOf" "[I", Cond.fieldLink RX4 35 "DiagramBenchModel" "seen" "[Z", Cond.fieldLink RX4 38 "DiagramBenchModel" "pile" "[I", Cond.fieldLink RX4 41 "DiagramBenchModel" "child" "[I", Cond.fieldLink RX4 44 "DiagramBenchModel" "has" "[Z", Cond.arrayClass .long, Cond.fieldLink RX4 47 "DiagramBenchModel" "bits" "[J", Cond.fieldLink RX4 51 "DiagramBenchModel" "nodeMany" "[I", Cond.fieldLink RX4 54 "DiagramBenchModel" "nodeOf" "[I", Cond.fieldLink RX4 57 "DiagramBenchModel" "depth" "[I", Cond.fieldLink RX4 60 "DiagramBenchModel" "key" "[J", Cond.fieldLink RX4 63 "DiagramBenchModel" "held" "[I"]
def wsX4_init_r2 : List Cond := [Cond.fieldLink RX4 66 "DiagramBenchModel" "next" "[I", Cond.fieldLink RX4 69 "DiagramBenchModel" "head" "[I", Cond.fieldLink RX4 72 "DiagramBenchModel" "mark" "[I", Cond.fieldLink RX4 75 "DiagramBenchModel" "part" "[J", Cond.constantLong RX4 78 (-4294967296), Cond.constantLong RX4 80 (-281470681808896), Cond.constantLong RX4 82 (-71777214294589696), Cond.constantLong RX4 84 (-1085102592571150096), Cond.constantLong RX4 86 (-3689348814741910324), Cond.constantLong RX4 88 (-6148914691236517206), Cond.fieldLink RX4 90 "DiagramBenchModel" "where" "[J", Cond.fieldLink RX4 93 "DiagramBenchModel" "needed" "[Z", Cond.fieldLink RX4 96 "DiagramBenchModel" "lastNeed" "[I", Cond.fieldLink RX4 99 "DiagramBenchModel" "ways" "[I", Cond.fieldLink RX4 102 "DiagramBenchModel" "room" "I", Cond.fieldLink RX4 106 "DiagramBenchModel" "parted" "I", Cond.fieldLink RX4 109 "DiagramBenchModel" "parting" "I"]
def wsX4_init : List Cond := .code yX4_init cX4_init 2 none :: ((wsX4_init_r1 ++ wsX4_init_r2) ++ wsX40)
def wsX4_in : List Cond := .code yX4_in cX4_in 3 (some .boolean) :: ([])
def wsX4_isNet : List Cond := .code yX4_isNet cX4_isNet 1 (some .boolean) :: ([.methodLink RX4 112 yX4_in, .static yX4_in, .initialized RX4, .code yX4_in cX4_in 3 (some .boolean)])
def wsX4_isGate : List Cond := .code yX4_isGate cX4_isGate 3 (some .boolean) :: ([.fieldLink RX4 7 "DiagramBenchModel" "gates" "[I", .methodLink RX4 112 yX4_in, .static yX4_in, .initialized RX4, .code yX4_in cX4_in 3 (some .boolean)] ++ wsX40)
def wsX4_isOutput : List Cond := .code yX4_isOutput cX4_isOutput 3 (some .boolean) :: ([.fieldLink RX4 13 "DiagramBenchModel" "outputs" "[I", .methodLink RX4 116 yX4_isNet, .static yX4_isNet, .initialized RX4, .code yX4_isNet cX4_isNet 1 (some .boolean), .methodLink RX4 112 yX4_in, .static yX4_in, .code yX4_in cX4_in 3 (some .boolean)] ++ wsX40)
def wsX4_wants : List Cond := .code yX4_wants cX4_wants 1 (some .int) :: ([])
def wsX4_gate : List Cond := .code yX4_gate cX4_gate 8 (some .int) :: ([.fieldLink RX4 7 "DiagramBenchModel" "gates" "[I", .fieldLink RX4 16 "DiagramBenchModel" "kind" "[I", .fieldLink RX4 19 "DiagramBenchModel" "of" "[I", .methodLink RX4 116 yX4_isNet, .static yX4_isNet, .initialized RX4, .code yX4_isNet cX4_isNet 1 (some .boolean), .methodLink RX4 112 yX4_in, .static yX4_in, .code yX4_in cX4_in 3 (some .boolean), .methodLink RX4 120 yX4_wants, .static yX4_wants, .code yX4_wants cX4_wants 1 (some .int), .methodLink RX4 124 yX4_isGate, .instanceMethod yX4_isGate, .selects RX4 yX4_isGate yX4_isGate, .code yX4_isGate cX4_isGate 3 (some .boolean)] ++ wsX40)
def wsX4_output : List Cond := .code yX4_output cX4_output 3 (some .int) :: ([.fieldLink RX4 13 "DiagramBenchModel" "outputs" "[I", .fieldLink RX4 22 "DiagramBenchModel" "outputAt" "[I", .methodLink RX4 116 yX4_isNet, .static yX4_isNet, .initialized RX4, .code yX4_isNet cX4_isNet 1 (some .boolean), .methodLink RX4 112 yX4_in, .static yX4_in, .code yX4_in cX4_in 3 (some .boolean), .methodLink RX4 124 yX4_isGate, .instanceMethod yX4_isGate, .selects RX4 yX4_isGate yX4_isGate, .code yX4_isGate cX4_isGate 3 (some .boolean), .fieldLink RX4 7 "DiagramBenchModel" "gates" "[I"] ++ wsX40)
def wsX4_clear : List Cond := .code yX4_clear cX4_clear 3 (some .int) :: ([.fieldLink RX4 7 "DiagramBenchModel" "gates" "[I", .fieldLink RX4 13 "DiagramBenchModel" "outputs" "[I", .methodLink RX4 116 yX4_isNet, .static yX4_isNet, .initialized RX4, .code yX4_isNet cX4_isNet 1 (some .boolean), .methodLink RX4 112 yX4_in, .static yX4_in, .code yX4_in cX4_in 3 (some .boolean)] ++ wsX40)
def wsX4_combined : List Cond := .code yX4_combined cX4_combined 3 (some .boolean) :: ([])
def wsX4_gives : List Cond := .code yX4_gives cX4_gives 10 (some .int) :: ([.fieldLink RX4 7 "DiagramBenchModel" "gates" "[I", .fieldLink RX4 16 "DiagramBenchModel" "kind" "[I", .fieldLink RX4 25 "DiagramBenchModel" "on" "[Z", .fieldLink RX4 19 "DiagramBenchModel" "of" "[I", .fieldLink RX4 22 "DiagramBenchModel" "outputAt" "[I", .methodLink RX4 128 yX4_isOutput, .instanceMethod yX4_isOutput, .selects RX4 yX4_isOutput yX4_isOutput, .initialized RX4, .code yX4_isOutput cX4_isOutput 3 (some .boolean), .fieldLink RX4 13 "DiagramBenchModel" "outputs" "[I", .methodLink RX4 116 yX4_isNet, .static yX4_isNet, .code yX4_isNet cX4_isNet 1 (some .boolean), .methodLink RX4 112 yX4_in, .static yX4_in, .code yX4_in cX4_in 3 (some .boolean), .methodLink RX4 120 yX4_wants, .static yX4_wants, .code yX4_wants cX4_wants 1 (some .int), .methodLink RX4 131 yX4_combined, .static yX4_combined, .code yX4_combined cX4_combined 3 (some .boolean)] ++ wsX40)
def wsX4_isEmpty : List Cond := .code yX4_isEmpty cX4_isEmpty 3 (some .boolean) :: ([.fieldLink RX4 44 "DiagramBenchModel" "has" "[Z"] ++ wsX40)
def wsX4_go : List Cond := .code yX4_go cX4_go 4 none :: ([.fieldLink RX4 35 "DiagramBenchModel" "seen" "[Z", .fieldLink RX4 38 "DiagramBenchModel" "pile" "[I", .fieldLink RX4 135 "DiagramBenchModel" "piled" "I", .fieldLink RX4 41 "DiagramBenchModel" "child" "[I", .fieldLink RX4 16 "DiagramBenchModel" "kind" "[I", .fieldLink RX4 32 "DiagramBenchModel" "placeOf" "[I", .fieldLink RX4 19 "DiagramBenchModel" "of" "[I", .fieldLink RX4 138 "DiagramBenchModel" "found" "I", .fieldLink RX4 29 "DiagramBenchModel" "order" "[I"] ++ wsX40)
def wsX4_order_r1 : List Cond := [Cond.fieldLink RX4 138 "DiagramBenchModel" "found" "I", Cond.fieldLink RX4 135 "DiagramBenchModel" "piled" "I", Cond.fieldLink RX4 35 "DiagramBenchModel" "seen" "[Z", Cond.fieldLink RX4 32 "DiagramBenchModel" "placeOf" "[I", Cond.fieldLink RX4 13 "DiagramBenchModel" "outputs" "[I", Cond.fieldLink RX4 22 "DiagramBenchModel" "outputAt" "[I", Cond.fieldLink RX4 38 "DiagramBenchModel" "pile" "[I", Cond.fieldLink RX4 41 "DiagramBenchModel" "child" "[I", Cond.fieldLink RX4 16 "DiagramBenchModel" "kind" "[I", Cond.fieldLink RX4 19 "DiagramBenchModel" "of" "[I", Cond.fieldLink RX4 29 "DiagramBenchModel" "order" "[I", Cond.methodLink RX4 116 yX4_isNet, Cond.static yX4_isNet, Cond.initialized RX4, Cond.code yX4_isNet cX4_isNet 1 (some .boolean), Cond.methodLink RX4 112 yX4_in, Cond.static yX4_in, Cond.code yX4_in cX4_in 3 (some .boolean), Cond.methodLink RX4 141 yX4_isEmpty, Cond.instanceMethod yX4_isEmpty, Cond.selects RX4 yX4_isEmpty yX4_isEmpty, Cond.code yX4_isEmpty cX4_isEmpty 3 (some .boolean), Cond.fieldLink RX4 44 "DiagramBenchModel" "has" "[Z", Cond.methodLink RX4 145 yX4_go]
def wsX4_order_r2 : List Cond := [Cond.instanceMethod yX4_go, Cond.selects RX4 yX4_go yX4_go, Cond.code yX4_go cX4_go 4 none, Cond.methodLink RX4 120 yX4_wants, Cond.static yX4_wants, Cond.code yX4_wants cX4_wants 1 (some .int)]
def wsX4_order : List Cond := .code yX4_order cX4_order 5 (some .int) :: ((wsX4_order_r1 ++ wsX4_order_r2) ++ wsX40)
def wsX4_move : List Cond := .code yX4_move cX4_move 6 (some .int) :: ([.fieldLink RX4 32 "DiagramBenchModel" "placeOf" "[I", .fieldLink RX4 29 "DiagramBenchModel" "order" "[I", .methodLink RX4 112 yX4_in, .static yX4_in, .initialized RX4, .code yX4_in cX4_in 3 (some .boolean), .methodLink RX4 141 yX4_isEmpty, .instanceMethod yX4_isEmpty, .selects RX4 yX4_isEmpty yX4_isEmpty, .code yX4_isEmpty cX4_isEmpty 3 (some .boolean), .fieldLink RX4 44 "DiagramBenchModel" "has" "[Z"] ++ wsX40)
def wsX4_at : List Cond := .code yX4_at cX4_at 2 (some .int) :: ([.fieldLink RX4 29 "DiagramBenchModel" "order" "[I", .methodLink RX4 112 yX4_in, .static yX4_in, .initialized RX4, .code yX4_in cX4_in 3 (some .boolean)] ++ wsX40)
def wsX4_room : List Cond := .code yX4_room cX4_room 3 (some .int) :: ([.fieldLink RX4 149 "DiagramBenchModel" "using" "I", .fieldLink RX4 102 "DiagramBenchModel" "room" "I", .methodLink RX4 112 yX4_in, .static yX4_in, .initialized RX4, .code yX4_in cX4_in 3 (some .boolean)] ++ wsX40)
def wsX4_bit : List Cond := .code yX4_bit cX4_bit 3 (some .boolean) :: ([.fieldLink RX4 47 "DiagramBenchModel" "bits" "[J"] ++ wsX40)
def wsX4_lays : List Cond := .code yX4_lays cX4_lays 10 (some .boolean) :: ([.fieldLink RX4 47 "DiagramBenchModel" "bits" "[J", .fieldLink RX4 75 "DiagramBenchModel" "part" "[J"] ++ wsX40)
def wsX4_bucket : List Cond := .code yX4_bucket cX4_bucket 5 (some .int) :: ([.constantLong RX4 152 (1000003), .fieldLink RX4 75 "DiagramBenchModel" "part" "[J"] ++ wsX40)
def wsX4_nodeFor : List Cond := .code yX4_nodeFor cX4_nodeFor 5 (some .int) :: ([.fieldLink RX4 69 "DiagramBenchModel" "head" "[I", .fieldLink RX4 57 "DiagramBenchModel" "depth" "[I", .fieldLink RX4 60 "DiagramBenchModel" "key" "[J", .fieldLink RX4 75 "DiagramBenchModel" "part" "[J", .fieldLink RX4 66 "DiagramBenchModel" "next" "[I", .fieldLink RX4 157 "DiagramBenchModel" "free" "I", .fieldLink RX4 63 "DiagramBenchModel" "held" "[I", .methodLink RX4 154 yX4_bucket, .instanceMethod yX4_bucket, .selects RX4 yX4_bucket yX4_bucket, .initialized RX4, .code yX4_bucket cX4_bucket 5 (some .int), .constantLong RX4 152 (1000003)] ++ wsX40)
def wsX4_unlink : List Cond := .code yX4_unlink cX4_unlink 4 none :: ([.fieldLink RX4 75 "DiagramBenchModel" "part" "[J", .fieldLink RX4 60 "DiagramBenchModel" "key" "[J", .fieldLink RX4 57 "DiagramBenchModel" "depth" "[I", .fieldLink RX4 69 "DiagramBenchModel" "head" "[I", .fieldLink RX4 66 "DiagramBenchModel" "next" "[I", .fieldLink RX4 157 "DiagramBenchModel" "free" "I", .methodLink RX4 154 yX4_bucket, .instanceMethod yX4_bucket, .selects RX4 yX4_bucket yX4_bucket, .initialized RX4, .code yX4_bucket cX4_bucket 5 (some .int), .constantLong RX4 152 (1000003)] ++ wsX40)
def wsX4_add_r1 : List Cond := [Cond.fieldLink RX4 44 "DiagramBenchModel" "has" "[Z", Cond.fieldLink RX4 51 "DiagramBenchModel" "nodeMany" "[I", Cond.fieldLink RX4 160 "DiagramBenchModel" "marked" "I", Cond.fieldLink RX4 72 "DiagramBenchModel" "mark" "[I", Cond.fieldLink RX4 149 "DiagramBenchModel" "using" "I", Cond.fieldLink RX4 63 "DiagramBenchModel" "held" "[I", Cond.fieldLink RX4 54 "DiagramBenchModel" "nodeOf" "[I", Cond.methodLink RX4 163 yX4_lays, Cond.instanceMethod yX4_lays, Cond.selects RX4 yX4_lays yX4_lays, Cond.initialized RX4, Cond.code yX4_lays cX4_lays 10 (some .boolean), Cond.fieldLink RX4 47 "DiagramBenchModel" "bits" "[J", Cond.fieldLink RX4 75 "DiagramBenchModel" "part" "[J", Cond.methodLink RX4 166 yX4_nodeFor, Cond.instanceMethod yX4_nodeFor, Cond.selects RX4 yX4_nodeFor yX4_nodeFor, Cond.code yX4_nodeFor cX4_nodeFor 5 (some .int), Cond.fieldLink RX4 69 "DiagramBenchModel" "head" "[I", Cond.fieldLink RX4 57 "DiagramBenchModel" "depth" "[I", Cond.fieldLink RX4 60 "DiagramBenchModel" "key" "[J", Cond.fieldLink RX4 66 "DiagramBenchModel" "next" "[I", Cond.fieldLink RX4 157 "DiagramBenchModel" "free" "I", Cond.methodLink RX4 154 yX4_bucket]
def wsX4_add_r2 : List Cond := [Cond.instanceMethod yX4_bucket, Cond.selects RX4 yX4_bucket yX4_bucket, Cond.code yX4_bucket cX4_bucket 5 (some .int), Cond.constantLong RX4 152 (1000003)]
def wsX4_add : List Cond := .code yX4_add cX4_add 5 none :: ((wsX4_add_r1 ++ wsX4_add_r2) ++ wsX40)
def wsX4_remove : List Cond := .code yX4_remove cX4_remove 4 none :: ([.fieldLink RX4 51 "DiagramBenchModel" "nodeMany" "[I", .fieldLink RX4 44 "DiagramBenchModel" "has" "[Z", .fieldLink RX4 54 "DiagramBenchModel" "nodeOf" "[I", .fieldLink RX4 63 "DiagramBenchModel" "held" "[I", .fieldLink RX4 149 "DiagramBenchModel" "using" "I", .fieldLink RX4 72 "DiagramBenchModel" "mark" "[I", .methodLink RX4 169 yX4_unlink, .instanceMethod yX4_unlink, .selects RX4 yX4_unlink yX4_unlink, .initialized RX4, .code yX4_unlink cX4_unlink 4 none, .fieldLink RX4 75 "DiagramBenchModel" "part" "[J", .fieldLink RX4 60 "DiagramBenchModel" "key" "[J", .fieldLink RX4 57 "DiagramBenchModel" "depth" "[I", .fieldLink RX4 69 "DiagramBenchModel" "head" "[I", .fieldLink RX4 66 "DiagramBenchModel" "next" "[I", .fieldLink RX4 157 "DiagramBenchModel" "free" "I", .methodLink RX4 154 yX4_bucket, .instanceMethod yX4_bucket, .selects RX4 yX4_bucket yX4_bucket, .code yX4_bucket cX4_bucket 5 (some .int), .constantLong RX4 152 (1000003)] ++ wsX40)
def wsX4_steps_r1 : List Cond := [Cond.fieldLink RX4 149 "DiagramBenchModel" "using" "I", Cond.fieldLink RX4 102 "DiagramBenchModel" "room" "I", Cond.fieldLink RX4 176 "DiagramBenchModel" "peak" "I", Cond.methodLink RX4 173 yX4_add, Cond.instanceMethod yX4_add, Cond.selects RX4 yX4_add yX4_add, Cond.initialized RX4, Cond.code yX4_add cX4_add 5 none, Cond.fieldLink RX4 44 "DiagramBenchModel" "has" "[Z", Cond.fieldLink RX4 51 "DiagramBenchModel" "nodeMany" "[I", Cond.fieldLink RX4 160 "DiagramBenchModel" "marked" "I", Cond.fieldLink RX4 72 "DiagramBenchModel" "mark" "[I", Cond.fieldLink RX4 63 "DiagramBenchModel" "held" "[I", Cond.fieldLink RX4 54 "DiagramBenchModel" "nodeOf" "[I", Cond.methodLink RX4 163 yX4_lays, Cond.instanceMethod yX4_lays, Cond.selects RX4 yX4_lays yX4_lays, Cond.code yX4_lays cX4_lays 10 (some .boolean), Cond.fieldLink RX4 47 "DiagramBenchModel" "bits" "[J", Cond.fieldLink RX4 75 "DiagramBenchModel" "part" "[J", Cond.methodLink RX4 166 yX4_nodeFor, Cond.instanceMethod yX4_nodeFor, Cond.selects RX4 yX4_nodeFor yX4_nodeFor, Cond.code yX4_nodeFor cX4_nodeFor 5 (some .int)]
def wsX4_steps_r2 : List Cond := [Cond.fieldLink RX4 69 "DiagramBenchModel" "head" "[I", Cond.fieldLink RX4 57 "DiagramBenchModel" "depth" "[I", Cond.fieldLink RX4 60 "DiagramBenchModel" "key" "[J", Cond.fieldLink RX4 66 "DiagramBenchModel" "next" "[I", Cond.fieldLink RX4 157 "DiagramBenchModel" "free" "I", Cond.methodLink RX4 154 yX4_bucket, Cond.instanceMethod yX4_bucket, Cond.selects RX4 yX4_bucket yX4_bucket, Cond.code yX4_bucket cX4_bucket 5 (some .int), Cond.constantLong RX4 152 (1000003)]
def wsX4_steps : List Cond := .code yX4_steps cX4_steps 2 (some .boolean) :: ((wsX4_steps_r1 ++ wsX4_steps_r2) ++ wsX40)
def wsX4_clearHand_r1 : List Cond := [Cond.methodLink RX4 179 yX4_remove, Cond.instanceMethod yX4_remove, Cond.selects RX4 yX4_remove yX4_remove, Cond.initialized RX4, Cond.code yX4_remove cX4_remove 4 none, Cond.fieldLink RX4 51 "DiagramBenchModel" "nodeMany" "[I", Cond.fieldLink RX4 44 "DiagramBenchModel" "has" "[Z", Cond.fieldLink RX4 54 "DiagramBenchModel" "nodeOf" "[I", Cond.fieldLink RX4 63 "DiagramBenchModel" "held" "[I", Cond.fieldLink RX4 149 "DiagramBenchModel" "using" "I", Cond.fieldLink RX4 72 "DiagramBenchModel" "mark" "[I", Cond.methodLink RX4 169 yX4_unlink, Cond.instanceMethod yX4_unlink, Cond.selects RX4 yX4_unlink yX4_unlink, Cond.code yX4_unlink cX4_unlink 4 none, Cond.fieldLink RX4 75 "DiagramBenchModel" "part" "[J", Cond.fieldLink RX4 60 "DiagramBenchModel" "key" "[J", Cond.fieldLink RX4 57 "DiagramBenchModel" "depth" "[I", Cond.fieldLink RX4 69 "DiagramBenchModel" "head" "[I", Cond.fieldLink RX4 66 "DiagramBenchModel" "next" "[I", Cond.fieldLink RX4 157 "DiagramBenchModel" "free" "I", Cond.methodLink RX4 154 yX4_bucket, Cond.instanceMethod yX4_bucket, Cond.selects RX4 yX4_bucket yX4_bucket]
def wsX4_clearHand_r2 : List Cond := [Cond.code yX4_bucket cX4_bucket 5 (some .int), Cond.constantLong RX4 152 (1000003)]
def wsX4_clearHand : List Cond := .code yX4_clearHand cX4_clearHand 2 none :: ((wsX4_clearHand_r1 ++ wsX4_clearHand_r2) ++ wsX40)
def wsX4_take_r1 : List Cond := [Cond.fieldLink RX4 47 "DiagramBenchModel" "bits" "[J", Cond.methodLink RX4 179 yX4_remove, Cond.instanceMethod yX4_remove, Cond.selects RX4 yX4_remove yX4_remove, Cond.initialized RX4, Cond.code yX4_remove cX4_remove 4 none, Cond.fieldLink RX4 51 "DiagramBenchModel" "nodeMany" "[I", Cond.fieldLink RX4 44 "DiagramBenchModel" "has" "[Z", Cond.fieldLink RX4 54 "DiagramBenchModel" "nodeOf" "[I", Cond.fieldLink RX4 63 "DiagramBenchModel" "held" "[I", Cond.fieldLink RX4 149 "DiagramBenchModel" "using" "I", Cond.fieldLink RX4 72 "DiagramBenchModel" "mark" "[I", Cond.methodLink RX4 169 yX4_unlink, Cond.instanceMethod yX4_unlink, Cond.selects RX4 yX4_unlink yX4_unlink, Cond.code yX4_unlink cX4_unlink 4 none, Cond.fieldLink RX4 75 "DiagramBenchModel" "part" "[J", Cond.fieldLink RX4 60 "DiagramBenchModel" "key" "[J", Cond.fieldLink RX4 57 "DiagramBenchModel" "depth" "[I", Cond.fieldLink RX4 69 "DiagramBenchModel" "head" "[I", Cond.fieldLink RX4 66 "DiagramBenchModel" "next" "[I", Cond.fieldLink RX4 157 "DiagramBenchModel" "free" "I", Cond.methodLink RX4 154 yX4_bucket, Cond.instanceMethod yX4_bucket]
def wsX4_take_r2 : List Cond := [Cond.selects RX4 yX4_bucket yX4_bucket, Cond.code yX4_bucket cX4_bucket 5 (some .int), Cond.constantLong RX4 152 (1000003), Cond.methodLink RX4 173 yX4_add, Cond.instanceMethod yX4_add, Cond.selects RX4 yX4_add yX4_add, Cond.code yX4_add cX4_add 5 none, Cond.fieldLink RX4 160 "DiagramBenchModel" "marked" "I", Cond.methodLink RX4 163 yX4_lays, Cond.instanceMethod yX4_lays, Cond.selects RX4 yX4_lays yX4_lays, Cond.code yX4_lays cX4_lays 10 (some .boolean), Cond.methodLink RX4 166 yX4_nodeFor, Cond.instanceMethod yX4_nodeFor, Cond.selects RX4 yX4_nodeFor yX4_nodeFor, Cond.code yX4_nodeFor cX4_nodeFor 5 (some .int)]
def wsX4_take : List Cond := .code yX4_take cX4_take 4 none :: ((wsX4_take_r1 ++ wsX4_take_r2) ++ wsX40)
def wsX4_gets_r1 : List Cond := [Cond.fieldLink RX4 51 "DiagramBenchModel" "nodeMany" "[I", Cond.methodLink RX4 182 yX4_take, Cond.instanceMethod yX4_take, Cond.selects RX4 yX4_take yX4_take, Cond.initialized RX4, Cond.code yX4_take cX4_take 4 none, Cond.fieldLink RX4 47 "DiagramBenchModel" "bits" "[J", Cond.methodLink RX4 179 yX4_remove, Cond.instanceMethod yX4_remove, Cond.selects RX4 yX4_remove yX4_remove, Cond.code yX4_remove cX4_remove 4 none, Cond.fieldLink RX4 44 "DiagramBenchModel" "has" "[Z", Cond.fieldLink RX4 54 "DiagramBenchModel" "nodeOf" "[I", Cond.fieldLink RX4 63 "DiagramBenchModel" "held" "[I", Cond.fieldLink RX4 149 "DiagramBenchModel" "using" "I", Cond.fieldLink RX4 72 "DiagramBenchModel" "mark" "[I", Cond.methodLink RX4 169 yX4_unlink, Cond.instanceMethod yX4_unlink, Cond.selects RX4 yX4_unlink yX4_unlink, Cond.code yX4_unlink cX4_unlink 4 none, Cond.fieldLink RX4 75 "DiagramBenchModel" "part" "[J", Cond.fieldLink RX4 60 "DiagramBenchModel" "key" "[J", Cond.fieldLink RX4 57 "DiagramBenchModel" "depth" "[I", Cond.fieldLink RX4 69 "DiagramBenchModel" "head" "[I"]
def wsX4_gets_r2 : List Cond := [Cond.fieldLink RX4 66 "DiagramBenchModel" "next" "[I", Cond.fieldLink RX4 157 "DiagramBenchModel" "free" "I", Cond.methodLink RX4 154 yX4_bucket, Cond.instanceMethod yX4_bucket, Cond.selects RX4 yX4_bucket yX4_bucket, Cond.code yX4_bucket cX4_bucket 5 (some .int), Cond.constantLong RX4 152 (1000003), Cond.methodLink RX4 173 yX4_add, Cond.instanceMethod yX4_add, Cond.selects RX4 yX4_add yX4_add, Cond.code yX4_add cX4_add 5 none, Cond.fieldLink RX4 160 "DiagramBenchModel" "marked" "I", Cond.methodLink RX4 163 yX4_lays, Cond.instanceMethod yX4_lays, Cond.selects RX4 yX4_lays yX4_lays, Cond.code yX4_lays cX4_lays 10 (some .boolean), Cond.methodLink RX4 166 yX4_nodeFor, Cond.instanceMethod yX4_nodeFor, Cond.selects RX4 yX4_nodeFor yX4_nodeFor, Cond.code yX4_nodeFor cX4_nodeFor 5 (some .int), Cond.methodLink RX4 185 yX4_clearHand, Cond.instanceMethod yX4_clearHand, Cond.selects RX4 yX4_clearHand yX4_clearHand, Cond.code yX4_clearHand cX4_clearHand 2 none]
def wsX4_gets : List Cond := .code yX4_gets cX4_gets 4 (some .int) :: ((wsX4_gets_r1 ++ wsX4_gets_r2) ++ wsX40)
def wsX4_makeVariable : List Cond := .code yX4_makeVariable cX4_makeVariable 5 none :: ([.fieldLink RX4 32 "DiagramBenchModel" "placeOf" "[I", .fieldLink RX4 47 "DiagramBenchModel" "bits" "[J", .fieldLink RX4 90 "DiagramBenchModel" "where" "[J", .constantLong RX4 188 (-1)] ++ wsX40)
def wsX4_joined : List Cond := .code yX4_joined cX4_joined 5 (some .long) :: ([.constantLong RX4 188 (-1)])
def wsX4_makeOf : List Cond := .code yX4_makeOf cX4_makeOf 6 none :: ([.fieldLink RX4 47 "DiagramBenchModel" "bits" "[J", .methodLink RX4 190 yX4_joined, .static yX4_joined, .initialized RX4, .code yX4_joined cX4_joined 5 (some .long), .constantLong RX4 188 (-1)] ++ wsX40)
def wsX4_makeChoice : List Cond := .code yX4_makeChoice cX4_makeChoice 8 none :: ([.fieldLink RX4 47 "DiagramBenchModel" "bits" "[J", .constantLong RX4 188 (-1)] ++ wsX40)
def wsX4_makeHalf : List Cond := .code yX4_makeHalf cX4_makeHalf 10 none :: ([.fieldLink RX4 32 "DiagramBenchModel" "placeOf" "[I", .fieldLink RX4 47 "DiagramBenchModel" "bits" "[J", .fieldLink RX4 90 "DiagramBenchModel" "where" "[J", .constantLong RX4 188 (-1)] ++ wsX40)
def wsX4_needs : List Cond := .code yX4_needs cX4_needs 7 none :: ([.fieldLink RX4 93 "DiagramBenchModel" "needed" "[Z", .fieldLink RX4 96 "DiagramBenchModel" "lastNeed" "[I", .fieldLink RX4 16 "DiagramBenchModel" "kind" "[I", .fieldLink RX4 19 "DiagramBenchModel" "of" "[I", .methodLink RX4 120 yX4_wants, .static yX4_wants, .initialized RX4, .code yX4_wants cX4_wants 1 (some .int)] ++ wsX40)
def wsX4_builds_r1 : List Cond := [Cond.fieldLink RX4 93 "DiagramBenchModel" "needed" "[Z", Cond.fieldLink RX4 16 "DiagramBenchModel" "kind" "[I", Cond.fieldLink RX4 19 "DiagramBenchModel" "of" "[I", Cond.fieldLink RX4 96 "DiagramBenchModel" "lastNeed" "[I", Cond.methodLink RX4 194 yX4_needs, Cond.instanceMethod yX4_needs, Cond.selects RX4 yX4_needs yX4_needs, Cond.initialized RX4, Cond.code yX4_needs cX4_needs 7 none, Cond.methodLink RX4 120 yX4_wants, Cond.static yX4_wants, Cond.code yX4_wants cX4_wants 1 (some .int), Cond.methodLink RX4 197 yX4_makeVariable, Cond.instanceMethod yX4_makeVariable, Cond.selects RX4 yX4_makeVariable yX4_makeVariable, Cond.code yX4_makeVariable cX4_makeVariable 5 none, Cond.fieldLink RX4 32 "DiagramBenchModel" "placeOf" "[I", Cond.fieldLink RX4 47 "DiagramBenchModel" "bits" "[J", Cond.fieldLink RX4 90 "DiagramBenchModel" "where" "[J", Cond.constantLong RX4 188 (-1), Cond.methodLink RX4 200 yX4_makeChoice, Cond.instanceMethod yX4_makeChoice, Cond.selects RX4 yX4_makeChoice yX4_makeChoice, Cond.code yX4_makeChoice cX4_makeChoice 8 none]
def wsX4_builds_r2 : List Cond := [Cond.methodLink RX4 204 yX4_makeOf, Cond.instanceMethod yX4_makeOf, Cond.selects RX4 yX4_makeOf yX4_makeOf, Cond.code yX4_makeOf cX4_makeOf 6 none, Cond.methodLink RX4 190 yX4_joined, Cond.static yX4_joined, Cond.code yX4_joined cX4_joined 5 (some .long), Cond.methodLink RX4 207 yX4_steps, Cond.instanceMethod yX4_steps, Cond.selects RX4 yX4_steps yX4_steps, Cond.code yX4_steps cX4_steps 2 (some .boolean), Cond.fieldLink RX4 149 "DiagramBenchModel" "using" "I", Cond.fieldLink RX4 102 "DiagramBenchModel" "room" "I", Cond.fieldLink RX4 176 "DiagramBenchModel" "peak" "I", Cond.methodLink RX4 173 yX4_add, Cond.instanceMethod yX4_add, Cond.selects RX4 yX4_add yX4_add, Cond.code yX4_add cX4_add 5 none, Cond.fieldLink RX4 44 "DiagramBenchModel" "has" "[Z", Cond.fieldLink RX4 51 "DiagramBenchModel" "nodeMany" "[I", Cond.fieldLink RX4 160 "DiagramBenchModel" "marked" "I", Cond.fieldLink RX4 72 "DiagramBenchModel" "mark" "[I", Cond.fieldLink RX4 63 "DiagramBenchModel" "held" "[I", Cond.fieldLink RX4 54 "DiagramBenchModel" "nodeOf" "[I"]
def wsX4_builds_r3 : List Cond := [Cond.methodLink RX4 163 yX4_lays, Cond.instanceMethod yX4_lays, Cond.selects RX4 yX4_lays yX4_lays, Cond.code yX4_lays cX4_lays 10 (some .boolean), Cond.fieldLink RX4 75 "DiagramBenchModel" "part" "[J", Cond.methodLink RX4 166 yX4_nodeFor, Cond.instanceMethod yX4_nodeFor, Cond.selects RX4 yX4_nodeFor yX4_nodeFor, Cond.code yX4_nodeFor cX4_nodeFor 5 (some .int), Cond.fieldLink RX4 69 "DiagramBenchModel" "head" "[I", Cond.fieldLink RX4 57 "DiagramBenchModel" "depth" "[I", Cond.fieldLink RX4 60 "DiagramBenchModel" "key" "[J", Cond.fieldLink RX4 66 "DiagramBenchModel" "next" "[I", Cond.fieldLink RX4 157 "DiagramBenchModel" "free" "I", Cond.methodLink RX4 154 yX4_bucket, Cond.instanceMethod yX4_bucket, Cond.selects RX4 yX4_bucket yX4_bucket, Cond.code yX4_bucket cX4_bucket 5 (some .int), Cond.constantLong RX4 152 (1000003), Cond.methodLink RX4 179 yX4_remove, Cond.instanceMethod yX4_remove, Cond.selects RX4 yX4_remove yX4_remove, Cond.code yX4_remove cX4_remove 4 none, Cond.methodLink RX4 169 yX4_unlink]
def wsX4_builds_r4 : List Cond := [Cond.instanceMethod yX4_unlink, Cond.selects RX4 yX4_unlink yX4_unlink, Cond.code yX4_unlink cX4_unlink 4 none]
def wsX4_builds : List Cond := .code yX4_builds cX4_builds 7 (some .boolean) :: ((wsX4_builds_r1 ++ (wsX4_builds_r2 ++ (wsX4_builds_r3 ++ wsX4_builds_r4))) ++ wsX40)
def wsX4_isHandle : List Cond := .code yX4_isHandle cX4_isHandle 1 (some .boolean) :: ([.methodLink RX4 112 yX4_in, .static yX4_in, .initialized RX4, .code yX4_in cX4_in 3 (some .boolean)])
def wsX4_isFunction : List Cond := .code yX4_isFunction cX4_isFunction 2 (some .boolean) :: ([.fieldLink RX4 44 "DiagramBenchModel" "has" "[Z", .methodLink RX4 210 yX4_isHandle, .static yX4_isHandle, .initialized RX4, .code yX4_isHandle cX4_isHandle 1 (some .boolean), .methodLink RX4 112 yX4_in, .static yX4_in, .code yX4_in cX4_in 3 (some .boolean)] ++ wsX40)
def wsX4_begin : List Cond := .code yX4_begin cX4_begin 1 none :: ([.fieldLink RX4 176 "DiagramBenchModel" "peak" "I"] ++ wsX40)
def wsX4_build_r1 : List Cond := [Cond.fieldLink RX4 22 "DiagramBenchModel" "outputAt" "[I", Cond.methodLink RX4 210 yX4_isHandle, Cond.static yX4_isHandle, Cond.initialized RX4, Cond.code yX4_isHandle cX4_isHandle 1 (some .boolean), Cond.methodLink RX4 112 yX4_in, Cond.static yX4_in, Cond.code yX4_in cX4_in 3 (some .boolean), Cond.methodLink RX4 128 yX4_isOutput, Cond.instanceMethod yX4_isOutput, Cond.selects RX4 yX4_isOutput yX4_isOutput, Cond.code yX4_isOutput cX4_isOutput 3 (some .boolean), Cond.fieldLink RX4 13 "DiagramBenchModel" "outputs" "[I", Cond.methodLink RX4 116 yX4_isNet, Cond.static yX4_isNet, Cond.code yX4_isNet cX4_isNet 1 (some .boolean), Cond.methodLink RX4 213 yX4_begin, Cond.instanceMethod yX4_begin, Cond.selects RX4 yX4_begin yX4_begin, Cond.code yX4_begin cX4_begin 1 none, Cond.fieldLink RX4 176 "DiagramBenchModel" "peak" "I", Cond.methodLink RX4 216 yX4_builds, Cond.instanceMethod yX4_builds, Cond.selects RX4 yX4_builds yX4_builds]
def wsX4_build_r2 : List Cond := [Cond.code yX4_builds cX4_builds 7 (some .boolean), Cond.fieldLink RX4 93 "DiagramBenchModel" "needed" "[Z", Cond.fieldLink RX4 16 "DiagramBenchModel" "kind" "[I", Cond.fieldLink RX4 19 "DiagramBenchModel" "of" "[I", Cond.fieldLink RX4 96 "DiagramBenchModel" "lastNeed" "[I", Cond.methodLink RX4 194 yX4_needs, Cond.instanceMethod yX4_needs, Cond.selects RX4 yX4_needs yX4_needs, Cond.code yX4_needs cX4_needs 7 none, Cond.methodLink RX4 120 yX4_wants, Cond.static yX4_wants, Cond.code yX4_wants cX4_wants 1 (some .int), Cond.methodLink RX4 197 yX4_makeVariable, Cond.instanceMethod yX4_makeVariable, Cond.selects RX4 yX4_makeVariable yX4_makeVariable, Cond.code yX4_makeVariable cX4_makeVariable 5 none, Cond.fieldLink RX4 32 "DiagramBenchModel" "placeOf" "[I", Cond.fieldLink RX4 47 "DiagramBenchModel" "bits" "[J", Cond.fieldLink RX4 90 "DiagramBenchModel" "where" "[J", Cond.constantLong RX4 188 (-1), Cond.methodLink RX4 200 yX4_makeChoice, Cond.instanceMethod yX4_makeChoice, Cond.selects RX4 yX4_makeChoice yX4_makeChoice, Cond.code yX4_makeChoice cX4_makeChoice 8 none]
def wsX4_build_r3 : List Cond := [Cond.methodLink RX4 204 yX4_makeOf, Cond.instanceMethod yX4_makeOf, Cond.selects RX4 yX4_makeOf yX4_makeOf, Cond.code yX4_makeOf cX4_makeOf 6 none, Cond.methodLink RX4 190 yX4_joined, Cond.static yX4_joined, Cond.code yX4_joined cX4_joined 5 (some .long), Cond.methodLink RX4 207 yX4_steps, Cond.instanceMethod yX4_steps, Cond.selects RX4 yX4_steps yX4_steps, Cond.code yX4_steps cX4_steps 2 (some .boolean), Cond.fieldLink RX4 149 "DiagramBenchModel" "using" "I", Cond.fieldLink RX4 102 "DiagramBenchModel" "room" "I", Cond.methodLink RX4 173 yX4_add, Cond.instanceMethod yX4_add, Cond.selects RX4 yX4_add yX4_add, Cond.code yX4_add cX4_add 5 none, Cond.fieldLink RX4 44 "DiagramBenchModel" "has" "[Z", Cond.fieldLink RX4 51 "DiagramBenchModel" "nodeMany" "[I", Cond.fieldLink RX4 160 "DiagramBenchModel" "marked" "I", Cond.fieldLink RX4 72 "DiagramBenchModel" "mark" "[I", Cond.fieldLink RX4 63 "DiagramBenchModel" "held" "[I", Cond.fieldLink RX4 54 "DiagramBenchModel" "nodeOf" "[I", Cond.methodLink RX4 163 yX4_lays]
def wsX4_build_r4 : List Cond := [Cond.instanceMethod yX4_lays, Cond.selects RX4 yX4_lays yX4_lays, Cond.code yX4_lays cX4_lays 10 (some .boolean), Cond.fieldLink RX4 75 "DiagramBenchModel" "part" "[J", Cond.methodLink RX4 166 yX4_nodeFor, Cond.instanceMethod yX4_nodeFor, Cond.selects RX4 yX4_nodeFor yX4_nodeFor, Cond.code yX4_nodeFor cX4_nodeFor 5 (some .int), Cond.fieldLink RX4 69 "DiagramBenchModel" "head" "[I", Cond.fieldLink RX4 57 "DiagramBenchModel" "depth" "[I", Cond.fieldLink RX4 60 "DiagramBenchModel" "key" "[J", Cond.fieldLink RX4 66 "DiagramBenchModel" "next" "[I", Cond.fieldLink RX4 157 "DiagramBenchModel" "free" "I", Cond.methodLink RX4 154 yX4_bucket, Cond.instanceMethod yX4_bucket, Cond.selects RX4 yX4_bucket yX4_bucket, Cond.code yX4_bucket cX4_bucket 5 (some .int), Cond.constantLong RX4 152 (1000003), Cond.methodLink RX4 179 yX4_remove, Cond.instanceMethod yX4_remove, Cond.selects RX4 yX4_remove yX4_remove, Cond.code yX4_remove cX4_remove 4 none, Cond.methodLink RX4 169 yX4_unlink, Cond.instanceMethod yX4_unlink]
def wsX4_build_r5 : List Cond := [Cond.selects RX4 yX4_unlink yX4_unlink, Cond.code yX4_unlink cX4_unlink 4 none, Cond.methodLink RX4 219 yX4_gets, Cond.instanceMethod yX4_gets, Cond.selects RX4 yX4_gets yX4_gets, Cond.code yX4_gets cX4_gets 4 (some .int), Cond.methodLink RX4 182 yX4_take, Cond.instanceMethod yX4_take, Cond.selects RX4 yX4_take yX4_take, Cond.code yX4_take cX4_take 4 none, Cond.methodLink RX4 185 yX4_clearHand, Cond.instanceMethod yX4_clearHand, Cond.selects RX4 yX4_clearHand yX4_clearHand, Cond.code yX4_clearHand cX4_clearHand 2 none]
def wsX4_build : List Cond := .code yX4_build cX4_build 5 (some .int) :: ((wsX4_build_r1 ++ (wsX4_build_r2 ++ (wsX4_build_r3 ++ (wsX4_build_r4 ++ wsX4_build_r5)))) ++ wsX40)
def wsX4_variable_r1 : List Cond := [Cond.methodLink RX4 210 yX4_isHandle, Cond.static yX4_isHandle, Cond.initialized RX4, Cond.code yX4_isHandle cX4_isHandle 1 (some .boolean), Cond.methodLink RX4 112 yX4_in, Cond.static yX4_in, Cond.code yX4_in cX4_in 3 (some .boolean), Cond.methodLink RX4 213 yX4_begin, Cond.instanceMethod yX4_begin, Cond.selects RX4 yX4_begin yX4_begin, Cond.code yX4_begin cX4_begin 1 none, Cond.fieldLink RX4 176 "DiagramBenchModel" "peak" "I", Cond.methodLink RX4 197 yX4_makeVariable, Cond.instanceMethod yX4_makeVariable, Cond.selects RX4 yX4_makeVariable yX4_makeVariable, Cond.code yX4_makeVariable cX4_makeVariable 5 none, Cond.fieldLink RX4 32 "DiagramBenchModel" "placeOf" "[I", Cond.fieldLink RX4 47 "DiagramBenchModel" "bits" "[J", Cond.fieldLink RX4 90 "DiagramBenchModel" "where" "[J", Cond.constantLong RX4 188 (-1), Cond.methodLink RX4 207 yX4_steps, Cond.instanceMethod yX4_steps, Cond.selects RX4 yX4_steps yX4_steps, Cond.code yX4_steps cX4_steps 2 (some .boolean)]
def wsX4_variable_r2 : List Cond := [Cond.fieldLink RX4 149 "DiagramBenchModel" "using" "I", Cond.fieldLink RX4 102 "DiagramBenchModel" "room" "I", Cond.methodLink RX4 173 yX4_add, Cond.instanceMethod yX4_add, Cond.selects RX4 yX4_add yX4_add, Cond.code yX4_add cX4_add 5 none, Cond.fieldLink RX4 44 "DiagramBenchModel" "has" "[Z", Cond.fieldLink RX4 51 "DiagramBenchModel" "nodeMany" "[I", Cond.fieldLink RX4 160 "DiagramBenchModel" "marked" "I", Cond.fieldLink RX4 72 "DiagramBenchModel" "mark" "[I", Cond.fieldLink RX4 63 "DiagramBenchModel" "held" "[I", Cond.fieldLink RX4 54 "DiagramBenchModel" "nodeOf" "[I", Cond.methodLink RX4 163 yX4_lays, Cond.instanceMethod yX4_lays, Cond.selects RX4 yX4_lays yX4_lays, Cond.code yX4_lays cX4_lays 10 (some .boolean), Cond.fieldLink RX4 75 "DiagramBenchModel" "part" "[J", Cond.methodLink RX4 166 yX4_nodeFor, Cond.instanceMethod yX4_nodeFor, Cond.selects RX4 yX4_nodeFor yX4_nodeFor, Cond.code yX4_nodeFor cX4_nodeFor 5 (some .int), Cond.fieldLink RX4 69 "DiagramBenchModel" "head" "[I", Cond.fieldLink RX4 57 "DiagramBenchModel" "depth" "[I", Cond.fieldLink RX4 60 "DiagramBenchModel" "key" "[J"]
def wsX4_variable_r3 : List Cond := [Cond.fieldLink RX4 66 "DiagramBenchModel" "next" "[I", Cond.fieldLink RX4 157 "DiagramBenchModel" "free" "I", Cond.methodLink RX4 154 yX4_bucket, Cond.instanceMethod yX4_bucket, Cond.selects RX4 yX4_bucket yX4_bucket, Cond.code yX4_bucket cX4_bucket 5 (some .int), Cond.constantLong RX4 152 (1000003), Cond.methodLink RX4 219 yX4_gets, Cond.instanceMethod yX4_gets, Cond.selects RX4 yX4_gets yX4_gets, Cond.code yX4_gets cX4_gets 4 (some .int), Cond.methodLink RX4 182 yX4_take, Cond.instanceMethod yX4_take, Cond.selects RX4 yX4_take yX4_take, Cond.code yX4_take cX4_take 4 none, Cond.methodLink RX4 179 yX4_remove, Cond.instanceMethod yX4_remove, Cond.selects RX4 yX4_remove yX4_remove, Cond.code yX4_remove cX4_remove 4 none, Cond.methodLink RX4 169 yX4_unlink, Cond.instanceMethod yX4_unlink, Cond.selects RX4 yX4_unlink yX4_unlink, Cond.code yX4_unlink cX4_unlink 4 none, Cond.methodLink RX4 185 yX4_clearHand]
def wsX4_variable_r4 : List Cond := [Cond.instanceMethod yX4_clearHand, Cond.selects RX4 yX4_clearHand yX4_clearHand, Cond.code yX4_clearHand cX4_clearHand 2 none]
def wsX4_variable : List Cond := .code yX4_variable cX4_variable 3 (some .int) :: ((wsX4_variable_r1 ++ (wsX4_variable_r2 ++ (wsX4_variable_r3 ++ wsX4_variable_r4))) ++ wsX40)
def wsX4_combine_r1 : List Cond := [Cond.methodLink RX4 210 yX4_isHandle, Cond.static yX4_isHandle, Cond.initialized RX4, Cond.code yX4_isHandle cX4_isHandle 1 (some .boolean), Cond.methodLink RX4 112 yX4_in, Cond.static yX4_in, Cond.code yX4_in cX4_in 3 (some .boolean), Cond.methodLink RX4 223 yX4_isFunction, Cond.instanceMethod yX4_isFunction, Cond.selects RX4 yX4_isFunction yX4_isFunction, Cond.code yX4_isFunction cX4_isFunction 2 (some .boolean), Cond.fieldLink RX4 44 "DiagramBenchModel" "has" "[Z", Cond.methodLink RX4 213 yX4_begin, Cond.instanceMethod yX4_begin, Cond.selects RX4 yX4_begin yX4_begin, Cond.code yX4_begin cX4_begin 1 none, Cond.fieldLink RX4 176 "DiagramBenchModel" "peak" "I", Cond.methodLink RX4 204 yX4_makeOf, Cond.instanceMethod yX4_makeOf, Cond.selects RX4 yX4_makeOf yX4_makeOf, Cond.code yX4_makeOf cX4_makeOf 6 none, Cond.fieldLink RX4 47 "DiagramBenchModel" "bits" "[J", Cond.methodLink RX4 190 yX4_joined, Cond.static yX4_joined]
def wsX4_combine_r2 : List Cond := [Cond.code yX4_joined cX4_joined 5 (some .long), Cond.constantLong RX4 188 (-1), Cond.methodLink RX4 207 yX4_steps, Cond.instanceMethod yX4_steps, Cond.selects RX4 yX4_steps yX4_steps, Cond.code yX4_steps cX4_steps 2 (some .boolean), Cond.fieldLink RX4 149 "DiagramBenchModel" "using" "I", Cond.fieldLink RX4 102 "DiagramBenchModel" "room" "I", Cond.methodLink RX4 173 yX4_add, Cond.instanceMethod yX4_add, Cond.selects RX4 yX4_add yX4_add, Cond.code yX4_add cX4_add 5 none, Cond.fieldLink RX4 51 "DiagramBenchModel" "nodeMany" "[I", Cond.fieldLink RX4 160 "DiagramBenchModel" "marked" "I", Cond.fieldLink RX4 72 "DiagramBenchModel" "mark" "[I", Cond.fieldLink RX4 63 "DiagramBenchModel" "held" "[I", Cond.fieldLink RX4 54 "DiagramBenchModel" "nodeOf" "[I", Cond.methodLink RX4 163 yX4_lays, Cond.instanceMethod yX4_lays, Cond.selects RX4 yX4_lays yX4_lays, Cond.code yX4_lays cX4_lays 10 (some .boolean), Cond.fieldLink RX4 75 "DiagramBenchModel" "part" "[J", Cond.methodLink RX4 166 yX4_nodeFor, Cond.instanceMethod yX4_nodeFor]
def wsX4_combine_r3 : List Cond := [Cond.selects RX4 yX4_nodeFor yX4_nodeFor, Cond.code yX4_nodeFor cX4_nodeFor 5 (some .int), Cond.fieldLink RX4 69 "DiagramBenchModel" "head" "[I", Cond.fieldLink RX4 57 "DiagramBenchModel" "depth" "[I", Cond.fieldLink RX4 60 "DiagramBenchModel" "key" "[J", Cond.fieldLink RX4 66 "DiagramBenchModel" "next" "[I", Cond.fieldLink RX4 157 "DiagramBenchModel" "free" "I", Cond.methodLink RX4 154 yX4_bucket, Cond.instanceMethod yX4_bucket, Cond.selects RX4 yX4_bucket yX4_bucket, Cond.code yX4_bucket cX4_bucket 5 (some .int), Cond.constantLong RX4 152 (1000003), Cond.methodLink RX4 219 yX4_gets, Cond.instanceMethod yX4_gets, Cond.selects RX4 yX4_gets yX4_gets, Cond.code yX4_gets cX4_gets 4 (some .int), Cond.methodLink RX4 182 yX4_take, Cond.instanceMethod yX4_take, Cond.selects RX4 yX4_take yX4_take, Cond.code yX4_take cX4_take 4 none, Cond.methodLink RX4 179 yX4_remove, Cond.instanceMethod yX4_remove, Cond.selects RX4 yX4_remove yX4_remove, Cond.code yX4_remove cX4_remove 4 none]
def wsX4_combine_r4 : List Cond := [Cond.methodLink RX4 169 yX4_unlink, Cond.instanceMethod yX4_unlink, Cond.selects RX4 yX4_unlink yX4_unlink, Cond.code yX4_unlink cX4_unlink 4 none, Cond.methodLink RX4 185 yX4_clearHand, Cond.instanceMethod yX4_clearHand, Cond.selects RX4 yX4_clearHand yX4_clearHand, Cond.code yX4_clearHand cX4_clearHand 2 none]
def wsX4_combine : List Cond := .code yX4_combine cX4_combine 5 (some .int) :: ((wsX4_combine_r1 ++ (wsX4_combine_r2 ++ (wsX4_combine_r3 ++ wsX4_combine_r4))) ++ wsX40)
def wsX4_choose_r1 : List Cond := [Cond.methodLink RX4 210 yX4_isHandle, Cond.static yX4_isHandle, Cond.initialized RX4, Cond.code yX4_isHandle cX4_isHandle 1 (some .boolean), Cond.methodLink RX4 112 yX4_in, Cond.static yX4_in, Cond.code yX4_in cX4_in 3 (some .boolean), Cond.methodLink RX4 223 yX4_isFunction, Cond.instanceMethod yX4_isFunction, Cond.selects RX4 yX4_isFunction yX4_isFunction, Cond.code yX4_isFunction cX4_isFunction 2 (some .boolean), Cond.fieldLink RX4 44 "DiagramBenchModel" "has" "[Z", Cond.methodLink RX4 213 yX4_begin, Cond.instanceMethod yX4_begin, Cond.selects RX4 yX4_begin yX4_begin, Cond.code yX4_begin cX4_begin 1 none, Cond.fieldLink RX4 176 "DiagramBenchModel" "peak" "I", Cond.methodLink RX4 200 yX4_makeChoice, Cond.instanceMethod yX4_makeChoice, Cond.selects RX4 yX4_makeChoice yX4_makeChoice, Cond.code yX4_makeChoice cX4_makeChoice 8 none, Cond.fieldLink RX4 47 "DiagramBenchModel" "bits" "[J", Cond.constantLong RX4 188 (-1), Cond.methodLink RX4 207 yX4_steps]
def wsX4_choose_r2 : List Cond := [Cond.instanceMethod yX4_steps, Cond.selects RX4 yX4_steps yX4_steps, Cond.code yX4_steps cX4_steps 2 (some .boolean), Cond.fieldLink RX4 149 "DiagramBenchModel" "using" "I", Cond.fieldLink RX4 102 "DiagramBenchModel" "room" "I", Cond.methodLink RX4 173 yX4_add, Cond.instanceMethod yX4_add, Cond.selects RX4 yX4_add yX4_add, Cond.code yX4_add cX4_add 5 none, Cond.fieldLink RX4 51 "DiagramBenchModel" "nodeMany" "[I", Cond.fieldLink RX4 160 "DiagramBenchModel" "marked" "I", Cond.fieldLink RX4 72 "DiagramBenchModel" "mark" "[I", Cond.fieldLink RX4 63 "DiagramBenchModel" "held" "[I", Cond.fieldLink RX4 54 "DiagramBenchModel" "nodeOf" "[I", Cond.methodLink RX4 163 yX4_lays, Cond.instanceMethod yX4_lays, Cond.selects RX4 yX4_lays yX4_lays, Cond.code yX4_lays cX4_lays 10 (some .boolean), Cond.fieldLink RX4 75 "DiagramBenchModel" "part" "[J", Cond.methodLink RX4 166 yX4_nodeFor, Cond.instanceMethod yX4_nodeFor, Cond.selects RX4 yX4_nodeFor yX4_nodeFor, Cond.code yX4_nodeFor cX4_nodeFor 5 (some .int), Cond.fieldLink RX4 69 "DiagramBenchModel" "head" "[I"]
def wsX4_choose_r3 : List Cond := [Cond.fieldLink RX4 57 "DiagramBenchModel" "depth" "[I", Cond.fieldLink RX4 60 "DiagramBenchModel" "key" "[J", Cond.fieldLink RX4 66 "DiagramBenchModel" "next" "[I", Cond.fieldLink RX4 157 "DiagramBenchModel" "free" "I", Cond.methodLink RX4 154 yX4_bucket, Cond.instanceMethod yX4_bucket, Cond.selects RX4 yX4_bucket yX4_bucket, Cond.code yX4_bucket cX4_bucket 5 (some .int), Cond.constantLong RX4 152 (1000003), Cond.methodLink RX4 219 yX4_gets, Cond.instanceMethod yX4_gets, Cond.selects RX4 yX4_gets yX4_gets, Cond.code yX4_gets cX4_gets 4 (some .int), Cond.methodLink RX4 182 yX4_take, Cond.instanceMethod yX4_take, Cond.selects RX4 yX4_take yX4_take, Cond.code yX4_take cX4_take 4 none, Cond.methodLink RX4 179 yX4_remove, Cond.instanceMethod yX4_remove, Cond.selects RX4 yX4_remove yX4_remove, Cond.code yX4_remove cX4_remove 4 none, Cond.methodLink RX4 169 yX4_unlink, Cond.instanceMethod yX4_unlink, Cond.selects RX4 yX4_unlink yX4_unlink]
def wsX4_choose_r4 : List Cond := [Cond.code yX4_unlink cX4_unlink 4 none, Cond.methodLink RX4 185 yX4_clearHand, Cond.instanceMethod yX4_clearHand, Cond.selects RX4 yX4_clearHand yX4_clearHand, Cond.code yX4_clearHand cX4_clearHand 2 none]
def wsX4_choose : List Cond := .code yX4_choose cX4_choose 5 (some .int) :: ((wsX4_choose_r1 ++ (wsX4_choose_r2 ++ (wsX4_choose_r3 ++ wsX4_choose_r4))) ++ wsX40)
def wsX4_noHalf : List Cond := .code yX4_noHalf cX4_noHalf 4 (some .int) :: ([.methodLink RX4 210 yX4_isHandle, .static yX4_isHandle, .initialized RX4, .code yX4_isHandle cX4_isHandle 1 (some .boolean), .methodLink RX4 112 yX4_in, .static yX4_in, .code yX4_in cX4_in 3 (some .boolean), .methodLink RX4 223 yX4_isFunction, .instanceMethod yX4_isFunction, .selects RX4 yX4_isFunction yX4_isFunction, .code yX4_isFunction cX4_isFunction 2 (some .boolean), .fieldLink RX4 44 "DiagramBenchModel" "has" "[Z"] ++ wsX40)
def wsX4_restrict_r1 : List Cond := [Cond.methodLink RX4 226 yX4_noHalf, Cond.instanceMethod yX4_noHalf, Cond.selects RX4 yX4_noHalf yX4_noHalf, Cond.initialized RX4, Cond.code yX4_noHalf cX4_noHalf 4 (some .int), Cond.methodLink RX4 210 yX4_isHandle, Cond.static yX4_isHandle, Cond.code yX4_isHandle cX4_isHandle 1 (some .boolean), Cond.methodLink RX4 112 yX4_in, Cond.static yX4_in, Cond.code yX4_in cX4_in 3 (some .boolean), Cond.methodLink RX4 223 yX4_isFunction, Cond.instanceMethod yX4_isFunction, Cond.selects RX4 yX4_isFunction yX4_isFunction, Cond.code yX4_isFunction cX4_isFunction 2 (some .boolean), Cond.fieldLink RX4 44 "DiagramBenchModel" "has" "[Z", Cond.methodLink RX4 213 yX4_begin, Cond.instanceMethod yX4_begin, Cond.selects RX4 yX4_begin yX4_begin, Cond.code yX4_begin cX4_begin 1 none, Cond.fieldLink RX4 176 "DiagramBenchModel" "peak" "I", Cond.methodLink RX4 230 yX4_makeHalf, Cond.instanceMethod yX4_makeHalf, Cond.selects RX4 yX4_makeHalf yX4_makeHalf]
def wsX4_restrict_r2 : List Cond := [Cond.code yX4_makeHalf cX4_makeHalf 10 none, Cond.fieldLink RX4 32 "DiagramBenchModel" "placeOf" "[I", Cond.fieldLink RX4 47 "DiagramBenchModel" "bits" "[J", Cond.fieldLink RX4 90 "DiagramBenchModel" "where" "[J", Cond.constantLong RX4 188 (-1), Cond.methodLink RX4 207 yX4_steps, Cond.instanceMethod yX4_steps, Cond.selects RX4 yX4_steps yX4_steps, Cond.code yX4_steps cX4_steps 2 (some .boolean), Cond.fieldLink RX4 149 "DiagramBenchModel" "using" "I", Cond.fieldLink RX4 102 "DiagramBenchModel" "room" "I", Cond.methodLink RX4 173 yX4_add, Cond.instanceMethod yX4_add, Cond.selects RX4 yX4_add yX4_add, Cond.code yX4_add cX4_add 5 none, Cond.fieldLink RX4 51 "DiagramBenchModel" "nodeMany" "[I", Cond.fieldLink RX4 160 "DiagramBenchModel" "marked" "I", Cond.fieldLink RX4 72 "DiagramBenchModel" "mark" "[I", Cond.fieldLink RX4 63 "DiagramBenchModel" "held" "[I", Cond.fieldLink RX4 54 "DiagramBenchModel" "nodeOf" "[I", Cond.methodLink RX4 163 yX4_lays, Cond.instanceMethod yX4_lays, Cond.selects RX4 yX4_lays yX4_lays, Cond.code yX4_lays cX4_lays 10 (some .boolean)]
def wsX4_restrict_r3 : List Cond := [Cond.fieldLink RX4 75 "DiagramBenchModel" "part" "[J", Cond.methodLink RX4 166 yX4_nodeFor, Cond.instanceMethod yX4_nodeFor, Cond.selects RX4 yX4_nodeFor yX4_nodeFor, Cond.code yX4_nodeFor cX4_nodeFor 5 (some .int), Cond.fieldLink RX4 69 "DiagramBenchModel" "head" "[I", Cond.fieldLink RX4 57 "DiagramBenchModel" "depth" "[I", Cond.fieldLink RX4 60 "DiagramBenchModel" "key" "[J", Cond.fieldLink RX4 66 "DiagramBenchModel" "next" "[I", Cond.fieldLink RX4 157 "DiagramBenchModel" "free" "I", Cond.methodLink RX4 154 yX4_bucket, Cond.instanceMethod yX4_bucket, Cond.selects RX4 yX4_bucket yX4_bucket, Cond.code yX4_bucket cX4_bucket 5 (some .int), Cond.constantLong RX4 152 (1000003), Cond.methodLink RX4 219 yX4_gets, Cond.instanceMethod yX4_gets, Cond.selects RX4 yX4_gets yX4_gets, Cond.code yX4_gets cX4_gets 4 (some .int), Cond.methodLink RX4 182 yX4_take, Cond.instanceMethod yX4_take, Cond.selects RX4 yX4_take yX4_take, Cond.code yX4_take cX4_take 4 none, Cond.methodLink RX4 179 yX4_remove]
def wsX4_restrict_r4 : List Cond := [Cond.instanceMethod yX4_remove, Cond.selects RX4 yX4_remove yX4_remove, Cond.code yX4_remove cX4_remove 4 none, Cond.methodLink RX4 169 yX4_unlink, Cond.instanceMethod yX4_unlink, Cond.selects RX4 yX4_unlink yX4_unlink, Cond.code yX4_unlink cX4_unlink 4 none, Cond.methodLink RX4 185 yX4_clearHand, Cond.instanceMethod yX4_clearHand, Cond.selects RX4 yX4_clearHand yX4_clearHand, Cond.code yX4_clearHand cX4_clearHand 2 none]
def wsX4_restrict : List Cond := .code yX4_restrict cX4_restrict 5 (some .int) :: ((wsX4_restrict_r1 ++ (wsX4_restrict_r2 ++ (wsX4_restrict_r3 ++ wsX4_restrict_r4))) ++ wsX40)
def wsX4_halves_r1 : List Cond := [Cond.methodLink RX4 213 yX4_begin, Cond.instanceMethod yX4_begin, Cond.selects RX4 yX4_begin yX4_begin, Cond.initialized RX4, Cond.code yX4_begin cX4_begin 1 none, Cond.fieldLink RX4 176 "DiagramBenchModel" "peak" "I", Cond.methodLink RX4 230 yX4_makeHalf, Cond.instanceMethod yX4_makeHalf, Cond.selects RX4 yX4_makeHalf yX4_makeHalf, Cond.code yX4_makeHalf cX4_makeHalf 10 none, Cond.fieldLink RX4 32 "DiagramBenchModel" "placeOf" "[I", Cond.fieldLink RX4 47 "DiagramBenchModel" "bits" "[J", Cond.fieldLink RX4 90 "DiagramBenchModel" "where" "[J", Cond.constantLong RX4 188 (-1), Cond.methodLink RX4 207 yX4_steps, Cond.instanceMethod yX4_steps, Cond.selects RX4 yX4_steps yX4_steps, Cond.code yX4_steps cX4_steps 2 (some .boolean), Cond.fieldLink RX4 149 "DiagramBenchModel" "using" "I", Cond.fieldLink RX4 102 "DiagramBenchModel" "room" "I", Cond.methodLink RX4 173 yX4_add, Cond.instanceMethod yX4_add, Cond.selects RX4 yX4_add yX4_add, Cond.code yX4_add cX4_add 5 none]
def wsX4_halves_r2 : List Cond := [Cond.fieldLink RX4 44 "DiagramBenchModel" "has" "[Z", Cond.fieldLink RX4 51 "DiagramBenchModel" "nodeMany" "[I", Cond.fieldLink RX4 160 "DiagramBenchModel" "marked" "I", Cond.fieldLink RX4 72 "DiagramBenchModel" "mark" "[I", Cond.fieldLink RX4 63 "DiagramBenchModel" "held" "[I", Cond.fieldLink RX4 54 "DiagramBenchModel" "nodeOf" "[I", Cond.methodLink RX4 163 yX4_lays, Cond.instanceMethod yX4_lays, Cond.selects RX4 yX4_lays yX4_lays, Cond.code yX4_lays cX4_lays 10 (some .boolean), Cond.fieldLink RX4 75 "DiagramBenchModel" "part" "[J", Cond.methodLink RX4 166 yX4_nodeFor, Cond.instanceMethod yX4_nodeFor, Cond.selects RX4 yX4_nodeFor yX4_nodeFor, Cond.code yX4_nodeFor cX4_nodeFor 5 (some .int), Cond.fieldLink RX4 69 "DiagramBenchModel" "head" "[I", Cond.fieldLink RX4 57 "DiagramBenchModel" "depth" "[I", Cond.fieldLink RX4 60 "DiagramBenchModel" "key" "[J", Cond.fieldLink RX4 66 "DiagramBenchModel" "next" "[I", Cond.fieldLink RX4 157 "DiagramBenchModel" "free" "I", Cond.methodLink RX4 154 yX4_bucket, Cond.instanceMethod yX4_bucket, Cond.selects RX4 yX4_bucket yX4_bucket, Cond.code yX4_bucket cX4_bucket 5 (some .int)]
def wsX4_halves_r3 : List Cond := [Cond.constantLong RX4 152 (1000003)]
def wsX4_halves : List Cond := .code yX4_halves cX4_halves 3 (some .boolean) :: ((wsX4_halves_r1 ++ (wsX4_halves_r2 ++ wsX4_halves_r3)) ++ wsX40)
def wsX4_quantify_r1 : List Cond := [Cond.methodLink RX4 226 yX4_noHalf, Cond.instanceMethod yX4_noHalf, Cond.selects RX4 yX4_noHalf yX4_noHalf, Cond.initialized RX4, Cond.code yX4_noHalf cX4_noHalf 4 (some .int), Cond.methodLink RX4 210 yX4_isHandle, Cond.static yX4_isHandle, Cond.code yX4_isHandle cX4_isHandle 1 (some .boolean), Cond.methodLink RX4 112 yX4_in, Cond.static yX4_in, Cond.code yX4_in cX4_in 3 (some .boolean), Cond.methodLink RX4 223 yX4_isFunction, Cond.instanceMethod yX4_isFunction, Cond.selects RX4 yX4_isFunction yX4_isFunction, Cond.code yX4_isFunction cX4_isFunction 2 (some .boolean), Cond.fieldLink RX4 44 "DiagramBenchModel" "has" "[Z", Cond.methodLink RX4 234 yX4_halves, Cond.instanceMethod yX4_halves, Cond.selects RX4 yX4_halves yX4_halves, Cond.code yX4_halves cX4_halves 3 (some .boolean), Cond.methodLink RX4 213 yX4_begin, Cond.instanceMethod yX4_begin, Cond.selects RX4 yX4_begin yX4_begin, Cond.code yX4_begin cX4_begin 1 none]
def wsX4_quantify_r2 : List Cond := [Cond.fieldLink RX4 176 "DiagramBenchModel" "peak" "I", Cond.methodLink RX4 230 yX4_makeHalf, Cond.instanceMethod yX4_makeHalf, Cond.selects RX4 yX4_makeHalf yX4_makeHalf, Cond.code yX4_makeHalf cX4_makeHalf 10 none, Cond.fieldLink RX4 32 "DiagramBenchModel" "placeOf" "[I", Cond.fieldLink RX4 47 "DiagramBenchModel" "bits" "[J", Cond.fieldLink RX4 90 "DiagramBenchModel" "where" "[J", Cond.constantLong RX4 188 (-1), Cond.methodLink RX4 207 yX4_steps, Cond.instanceMethod yX4_steps, Cond.selects RX4 yX4_steps yX4_steps, Cond.code yX4_steps cX4_steps 2 (some .boolean), Cond.fieldLink RX4 149 "DiagramBenchModel" "using" "I", Cond.fieldLink RX4 102 "DiagramBenchModel" "room" "I", Cond.methodLink RX4 173 yX4_add, Cond.instanceMethod yX4_add, Cond.selects RX4 yX4_add yX4_add, Cond.code yX4_add cX4_add 5 none, Cond.fieldLink RX4 51 "DiagramBenchModel" "nodeMany" "[I", Cond.fieldLink RX4 160 "DiagramBenchModel" "marked" "I", Cond.fieldLink RX4 72 "DiagramBenchModel" "mark" "[I", Cond.fieldLink RX4 63 "DiagramBenchModel" "held" "[I", Cond.fieldLink RX4 54 "DiagramBenchModel" "nodeOf" "[I"]
def wsX4_quantify_r3 : List Cond := [Cond.methodLink RX4 163 yX4_lays, Cond.instanceMethod yX4_lays, Cond.selects RX4 yX4_lays yX4_lays, Cond.code yX4_lays cX4_lays 10 (some .boolean), Cond.fieldLink RX4 75 "DiagramBenchModel" "part" "[J", Cond.methodLink RX4 166 yX4_nodeFor, Cond.instanceMethod yX4_nodeFor, Cond.selects RX4 yX4_nodeFor yX4_nodeFor, Cond.code yX4_nodeFor cX4_nodeFor 5 (some .int), Cond.fieldLink RX4 69 "DiagramBenchModel" "head" "[I", Cond.fieldLink RX4 57 "DiagramBenchModel" "depth" "[I", Cond.fieldLink RX4 60 "DiagramBenchModel" "key" "[J", Cond.fieldLink RX4 66 "DiagramBenchModel" "next" "[I", Cond.fieldLink RX4 157 "DiagramBenchModel" "free" "I", Cond.methodLink RX4 154 yX4_bucket, Cond.instanceMethod yX4_bucket, Cond.selects RX4 yX4_bucket yX4_bucket, Cond.code yX4_bucket cX4_bucket 5 (some .int), Cond.constantLong RX4 152 (1000003), Cond.methodLink RX4 204 yX4_makeOf, Cond.instanceMethod yX4_makeOf, Cond.selects RX4 yX4_makeOf yX4_makeOf, Cond.code yX4_makeOf cX4_makeOf 6 none, Cond.methodLink RX4 190 yX4_joined]
def wsX4_quantify_r4 : List Cond := [Cond.static yX4_joined, Cond.code yX4_joined cX4_joined 5 (some .long), Cond.methodLink RX4 219 yX4_gets, Cond.instanceMethod yX4_gets, Cond.selects RX4 yX4_gets yX4_gets, Cond.code yX4_gets cX4_gets 4 (some .int), Cond.methodLink RX4 182 yX4_take, Cond.instanceMethod yX4_take, Cond.selects RX4 yX4_take yX4_take, Cond.code yX4_take cX4_take 4 none, Cond.methodLink RX4 179 yX4_remove, Cond.instanceMethod yX4_remove, Cond.selects RX4 yX4_remove yX4_remove, Cond.code yX4_remove cX4_remove 4 none, Cond.methodLink RX4 169 yX4_unlink, Cond.instanceMethod yX4_unlink, Cond.selects RX4 yX4_unlink yX4_unlink, Cond.code yX4_unlink cX4_unlink 4 none, Cond.methodLink RX4 185 yX4_clearHand, Cond.instanceMethod yX4_clearHand, Cond.selects RX4 yX4_clearHand yX4_clearHand, Cond.code yX4_clearHand cX4_clearHand 2 none]
def wsX4_quantify : List Cond := .code yX4_quantify cX4_quantify 6 (some .int) :: ((wsX4_quantify_r1 ++ (wsX4_quantify_r2 ++ (wsX4_quantify_r3 ++ wsX4_quantify_r4))) ++ wsX40)
def wsX4_compose_r1 : List Cond := [Cond.methodLink RX4 226 yX4_noHalf, Cond.instanceMethod yX4_noHalf, Cond.selects RX4 yX4_noHalf yX4_noHalf, Cond.initialized RX4, Cond.code yX4_noHalf cX4_noHalf 4 (some .int), Cond.methodLink RX4 210 yX4_isHandle, Cond.static yX4_isHandle, Cond.code yX4_isHandle cX4_isHandle 1 (some .boolean), Cond.methodLink RX4 112 yX4_in, Cond.static yX4_in, Cond.code yX4_in cX4_in 3 (some .boolean), Cond.methodLink RX4 223 yX4_isFunction, Cond.instanceMethod yX4_isFunction, Cond.selects RX4 yX4_isFunction yX4_isFunction, Cond.code yX4_isFunction cX4_isFunction 2 (some .boolean), Cond.fieldLink RX4 44 "DiagramBenchModel" "has" "[Z", Cond.methodLink RX4 234 yX4_halves, Cond.instanceMethod yX4_halves, Cond.selects RX4 yX4_halves yX4_halves, Cond.code yX4_halves cX4_halves 3 (some .boolean), Cond.methodLink RX4 213 yX4_begin, Cond.instanceMethod yX4_begin, Cond.selects RX4 yX4_begin yX4_begin, Cond.code yX4_begin cX4_begin 1 none]
def wsX4_compose_r2 : List Cond := [Cond.fieldLink RX4 176 "DiagramBenchModel" "peak" "I", Cond.methodLink RX4 230 yX4_makeHalf, Cond.instanceMethod yX4_makeHalf, Cond.selects RX4 yX4_makeHalf yX4_makeHalf, Cond.code yX4_makeHalf cX4_makeHalf 10 none, Cond.fieldLink RX4 32 "DiagramBenchModel" "placeOf" "[I", Cond.fieldLink RX4 47 "DiagramBenchModel" "bits" "[J", Cond.fieldLink RX4 90 "DiagramBenchModel" "where" "[J", Cond.constantLong RX4 188 (-1), Cond.methodLink RX4 207 yX4_steps, Cond.instanceMethod yX4_steps, Cond.selects RX4 yX4_steps yX4_steps, Cond.code yX4_steps cX4_steps 2 (some .boolean), Cond.fieldLink RX4 149 "DiagramBenchModel" "using" "I", Cond.fieldLink RX4 102 "DiagramBenchModel" "room" "I", Cond.methodLink RX4 173 yX4_add, Cond.instanceMethod yX4_add, Cond.selects RX4 yX4_add yX4_add, Cond.code yX4_add cX4_add 5 none, Cond.fieldLink RX4 51 "DiagramBenchModel" "nodeMany" "[I", Cond.fieldLink RX4 160 "DiagramBenchModel" "marked" "I", Cond.fieldLink RX4 72 "DiagramBenchModel" "mark" "[I", Cond.fieldLink RX4 63 "DiagramBenchModel" "held" "[I", Cond.fieldLink RX4 54 "DiagramBenchModel" "nodeOf" "[I"]
def wsX4_compose_r3 : List Cond := [Cond.methodLink RX4 163 yX4_lays, Cond.instanceMethod yX4_lays, Cond.selects RX4 yX4_lays yX4_lays, Cond.code yX4_lays cX4_lays 10 (some .boolean), Cond.fieldLink RX4 75 "DiagramBenchModel" "part" "[J", Cond.methodLink RX4 166 yX4_nodeFor, Cond.instanceMethod yX4_nodeFor, Cond.selects RX4 yX4_nodeFor yX4_nodeFor, Cond.code yX4_nodeFor cX4_nodeFor 5 (some .int), Cond.fieldLink RX4 69 "DiagramBenchModel" "head" "[I", Cond.fieldLink RX4 57 "DiagramBenchModel" "depth" "[I", Cond.fieldLink RX4 60 "DiagramBenchModel" "key" "[J", Cond.fieldLink RX4 66 "DiagramBenchModel" "next" "[I", Cond.fieldLink RX4 157 "DiagramBenchModel" "free" "I", Cond.methodLink RX4 154 yX4_bucket, Cond.instanceMethod yX4_bucket, Cond.selects RX4 yX4_bucket yX4_bucket, Cond.code yX4_bucket cX4_bucket 5 (some .int), Cond.constantLong RX4 152 (1000003), Cond.methodLink RX4 200 yX4_makeChoice, Cond.instanceMethod yX4_makeChoice, Cond.selects RX4 yX4_makeChoice yX4_makeChoice, Cond.code yX4_makeChoice cX4_makeChoice 8 none, Cond.methodLink RX4 219 yX4_gets]
def wsX4_compose_r4 : List Cond := [Cond.instanceMethod yX4_gets, Cond.selects RX4 yX4_gets yX4_gets, Cond.code yX4_gets cX4_gets 4 (some .int), Cond.methodLink RX4 182 yX4_take, Cond.instanceMethod yX4_take, Cond.selects RX4 yX4_take yX4_take, Cond.code yX4_take cX4_take 4 none, Cond.methodLink RX4 179 yX4_remove, Cond.instanceMethod yX4_remove, Cond.selects RX4 yX4_remove yX4_remove, Cond.code yX4_remove cX4_remove 4 none, Cond.methodLink RX4 169 yX4_unlink, Cond.instanceMethod yX4_unlink, Cond.selects RX4 yX4_unlink yX4_unlink, Cond.code yX4_unlink cX4_unlink 4 none, Cond.methodLink RX4 185 yX4_clearHand, Cond.instanceMethod yX4_clearHand, Cond.selects RX4 yX4_clearHand yX4_clearHand, Cond.code yX4_clearHand cX4_clearHand 2 none]
def wsX4_compose : List Cond := .code yX4_compose cX4_compose 6 (some .int) :: ((wsX4_compose_r1 ++ (wsX4_compose_r2 ++ (wsX4_compose_r3 ++ wsX4_compose_r4))) ++ wsX40)
def wsX4_share_r1 : List Cond := [Cond.methodLink RX4 210 yX4_isHandle, Cond.static yX4_isHandle, Cond.initialized RX4, Cond.code yX4_isHandle cX4_isHandle 1 (some .boolean), Cond.methodLink RX4 112 yX4_in, Cond.static yX4_in, Cond.code yX4_in cX4_in 3 (some .boolean), Cond.methodLink RX4 223 yX4_isFunction, Cond.instanceMethod yX4_isFunction, Cond.selects RX4 yX4_isFunction yX4_isFunction, Cond.code yX4_isFunction cX4_isFunction 2 (some .boolean), Cond.fieldLink RX4 44 "DiagramBenchModel" "has" "[Z", Cond.methodLink RX4 182 yX4_take, Cond.instanceMethod yX4_take, Cond.selects RX4 yX4_take yX4_take, Cond.code yX4_take cX4_take 4 none, Cond.fieldLink RX4 47 "DiagramBenchModel" "bits" "[J", Cond.methodLink RX4 179 yX4_remove, Cond.instanceMethod yX4_remove, Cond.selects RX4 yX4_remove yX4_remove, Cond.code yX4_remove cX4_remove 4 none, Cond.fieldLink RX4 51 "DiagramBenchModel" "nodeMany" "[I", Cond.fieldLink RX4 54 "DiagramBenchModel" "nodeOf" "[I", Cond.fieldLink RX4 63 "DiagramBenchModel" "held" "[I"]
def wsX4_share_r2 : List Cond := [Cond.fieldLink RX4 149 "DiagramBenchModel" "using" "I", Cond.fieldLink RX4 72 "DiagramBenchModel" "mark" "[I", Cond.methodLink RX4 169 yX4_unlink, Cond.instanceMethod yX4_unlink, Cond.selects RX4 yX4_unlink yX4_unlink, Cond.code yX4_unlink cX4_unlink 4 none, Cond.fieldLink RX4 75 "DiagramBenchModel" "part" "[J", Cond.fieldLink RX4 60 "DiagramBenchModel" "key" "[J", Cond.fieldLink RX4 57 "DiagramBenchModel" "depth" "[I", Cond.fieldLink RX4 69 "DiagramBenchModel" "head" "[I", Cond.fieldLink RX4 66 "DiagramBenchModel" "next" "[I", Cond.fieldLink RX4 157 "DiagramBenchModel" "free" "I", Cond.methodLink RX4 154 yX4_bucket, Cond.instanceMethod yX4_bucket, Cond.selects RX4 yX4_bucket yX4_bucket, Cond.code yX4_bucket cX4_bucket 5 (some .int), Cond.constantLong RX4 152 (1000003), Cond.methodLink RX4 173 yX4_add, Cond.instanceMethod yX4_add, Cond.selects RX4 yX4_add yX4_add, Cond.code yX4_add cX4_add 5 none, Cond.fieldLink RX4 160 "DiagramBenchModel" "marked" "I", Cond.methodLink RX4 163 yX4_lays, Cond.instanceMethod yX4_lays]
def wsX4_share_r3 : List Cond := [Cond.selects RX4 yX4_lays yX4_lays, Cond.code yX4_lays cX4_lays 10 (some .boolean), Cond.methodLink RX4 166 yX4_nodeFor, Cond.instanceMethod yX4_nodeFor, Cond.selects RX4 yX4_nodeFor yX4_nodeFor, Cond.code yX4_nodeFor cX4_nodeFor 5 (some .int)]
def wsX4_share : List Cond := .code yX4_share cX4_share 3 (some .int) :: ((wsX4_share_r1 ++ (wsX4_share_r2 ++ wsX4_share_r3)) ++ wsX40)
def wsX4_drop_r1 : List Cond := [Cond.fieldLink RX4 44 "DiagramBenchModel" "has" "[Z", Cond.methodLink RX4 210 yX4_isHandle, Cond.static yX4_isHandle, Cond.initialized RX4, Cond.code yX4_isHandle cX4_isHandle 1 (some .boolean), Cond.methodLink RX4 112 yX4_in, Cond.static yX4_in, Cond.code yX4_in cX4_in 3 (some .boolean), Cond.methodLink RX4 179 yX4_remove, Cond.instanceMethod yX4_remove, Cond.selects RX4 yX4_remove yX4_remove, Cond.code yX4_remove cX4_remove 4 none, Cond.fieldLink RX4 51 "DiagramBenchModel" "nodeMany" "[I", Cond.fieldLink RX4 54 "DiagramBenchModel" "nodeOf" "[I", Cond.fieldLink RX4 63 "DiagramBenchModel" "held" "[I", Cond.fieldLink RX4 149 "DiagramBenchModel" "using" "I", Cond.fieldLink RX4 72 "DiagramBenchModel" "mark" "[I", Cond.methodLink RX4 169 yX4_unlink, Cond.instanceMethod yX4_unlink, Cond.selects RX4 yX4_unlink yX4_unlink, Cond.code yX4_unlink cX4_unlink 4 none, Cond.fieldLink RX4 75 "DiagramBenchModel" "part" "[J", Cond.fieldLink RX4 60 "DiagramBenchModel" "key" "[J", Cond.fieldLink RX4 57 "DiagramBenchModel" "depth" "[I"]
def wsX4_drop_r2 : List Cond := [Cond.fieldLink RX4 69 "DiagramBenchModel" "head" "[I", Cond.fieldLink RX4 66 "DiagramBenchModel" "next" "[I", Cond.fieldLink RX4 157 "DiagramBenchModel" "free" "I", Cond.methodLink RX4 154 yX4_bucket, Cond.instanceMethod yX4_bucket, Cond.selects RX4 yX4_bucket yX4_bucket, Cond.code yX4_bucket cX4_bucket 5 (some .int), Cond.constantLong RX4 152 (1000003)]
def wsX4_drop : List Cond := .code yX4_drop cX4_drop 3 (some .int) :: ((wsX4_drop_r1 ++ wsX4_drop_r2) ++ wsX40)
def wsX4_nodes : List Cond := .code yX4_nodes cX4_nodes 2 (some .int) :: ([.fieldLink RX4 51 "DiagramBenchModel" "nodeMany" "[I", .methodLink RX4 223 yX4_isFunction, .instanceMethod yX4_isFunction, .selects RX4 yX4_isFunction yX4_isFunction, .initialized RX4, .code yX4_isFunction cX4_isFunction 2 (some .boolean), .fieldLink RX4 44 "DiagramBenchModel" "has" "[Z", .methodLink RX4 210 yX4_isHandle, .static yX4_isHandle, .code yX4_isHandle cX4_isHandle 1 (some .boolean), .methodLink RX4 112 yX4_in, .static yX4_in, .code yX4_in cX4_in 3 (some .boolean)] ++ wsX40)
def wsX4_inUse : List Cond := .code yX4_inUse cX4_inUse 1 (some .int) :: ([.fieldLink RX4 149 "DiagramBenchModel" "using" "I"] ++ wsX40)
def wsX4_common : List Cond := .code yX4_common cX4_common 6 (some .int) :: ([.fieldLink RX4 51 "DiagramBenchModel" "nodeMany" "[I", .fieldLink RX4 54 "DiagramBenchModel" "nodeOf" "[I", .methodLink RX4 223 yX4_isFunction, .instanceMethod yX4_isFunction, .selects RX4 yX4_isFunction yX4_isFunction, .initialized RX4, .code yX4_isFunction cX4_isFunction 2 (some .boolean), .fieldLink RX4 44 "DiagramBenchModel" "has" "[Z", .methodLink RX4 210 yX4_isHandle, .static yX4_isHandle, .code yX4_isHandle cX4_isHandle 1 (some .boolean), .methodLink RX4 112 yX4_in, .static yX4_in, .code yX4_in cX4_in 3 (some .boolean)] ++ wsX40)
def wsX4_peak : List Cond := .code yX4_peak cX4_peak 1 (some .int) :: ([.fieldLink RX4 176 "DiagramBenchModel" "peak" "I"] ++ wsX40)
def wsX4_stands : List Cond := .code yX4_stands cX4_stands 4 (some .int) :: ([.fieldLink RX4 29 "DiagramBenchModel" "order" "[I"] ++ wsX40)
def wsX4_assignmentAt : List Cond := .code yX4_assignmentAt cX4_assignmentAt 4 (some .int) :: ([.fieldLink RX4 29 "DiagramBenchModel" "order" "[I"] ++ wsX40)
def wsX4_value : List Cond := .code yX4_value cX4_value 3 (some .int) :: ([.methodLink RX4 223 yX4_isFunction, .instanceMethod yX4_isFunction, .selects RX4 yX4_isFunction yX4_isFunction, .initialized RX4, .code yX4_isFunction cX4_isFunction 2 (some .boolean), .fieldLink RX4 44 "DiagramBenchModel" "has" "[Z", .methodLink RX4 210 yX4_isHandle, .static yX4_isHandle, .code yX4_isHandle cX4_isHandle 1 (some .boolean), .methodLink RX4 112 yX4_in, .static yX4_in, .code yX4_in cX4_in 3 (some .boolean), .methodLink RX4 237 yX4_stands, .instanceMethod yX4_stands, .selects RX4 yX4_stands yX4_stands, .code yX4_stands cX4_stands 4 (some .int), .fieldLink RX4 29 "DiagramBenchModel" "order" "[I", .methodLink RX4 240 yX4_bit, .instanceMethod yX4_bit, .selects RX4 yX4_bit yX4_bit, .code yX4_bit cX4_bit 3 (some .boolean), .fieldLink RX4 47 "DiagramBenchModel" "bits" "[J"] ++ wsX40)
def wsX4_same : List Cond := .code yX4_same cX4_same 5 (some .int) :: ([.fieldLink RX4 47 "DiagramBenchModel" "bits" "[J", .methodLink RX4 223 yX4_isFunction, .instanceMethod yX4_isFunction, .selects RX4 yX4_isFunction yX4_isFunction, .initialized RX4, .code yX4_isFunction cX4_isFunction 2 (some .boolean), .fieldLink RX4 44 "DiagramBenchModel" "has" "[Z", .methodLink RX4 210 yX4_isHandle, .static yX4_isHandle, .code yX4_isHandle cX4_isHandle 1 (some .boolean), .methodLink RX4 112 yX4_in, .static yX4_in, .code yX4_in cX4_in 3 (some .boolean)] ++ wsX40)
def wsX4_count : List Cond := .code yX4_count cX4_count 4 (some .int) :: ([.methodLink RX4 223 yX4_isFunction, .instanceMethod yX4_isFunction, .selects RX4 yX4_isFunction yX4_isFunction, .initialized RX4, .code yX4_isFunction cX4_isFunction 2 (some .boolean), .fieldLink RX4 44 "DiagramBenchModel" "has" "[Z", .methodLink RX4 210 yX4_isHandle, .static yX4_isHandle, .code yX4_isHandle cX4_isHandle 1 (some .boolean), .methodLink RX4 112 yX4_in, .static yX4_in, .code yX4_in cX4_in 3 (some .boolean), .methodLink RX4 240 yX4_bit, .instanceMethod yX4_bit, .selects RX4 yX4_bit yX4_bit, .code yX4_bit cX4_bit 3 (some .boolean), .fieldLink RX4 47 "DiagramBenchModel" "bits" "[J"] ++ wsX40)
def wsX4_hangs : List Cond := .code yX4_hangs cX4_hangs 6 (some .boolean) :: ([.methodLink RX4 240 yX4_bit, .instanceMethod yX4_bit, .selects RX4 yX4_bit yX4_bit, .initialized RX4, .code yX4_bit cX4_bit 3 (some .boolean), .fieldLink RX4 47 "DiagramBenchModel" "bits" "[J"] ++ wsX40)
def wsX4_support : List Cond := .code yX4_support cX4_support 4 (some .int) :: ([.fieldLink RX4 29 "DiagramBenchModel" "order" "[I", .methodLink RX4 223 yX4_isFunction, .instanceMethod yX4_isFunction, .selects RX4 yX4_isFunction yX4_isFunction, .initialized RX4, .code yX4_isFunction cX4_isFunction 2 (some .boolean), .fieldLink RX4 44 "DiagramBenchModel" "has" "[Z", .methodLink RX4 210 yX4_isHandle, .static yX4_isHandle, .code yX4_isHandle cX4_isHandle 1 (some .boolean), .methodLink RX4 112 yX4_in, .static yX4_in, .code yX4_in cX4_in 3 (some .boolean), .methodLink RX4 243 yX4_hangs, .instanceMethod yX4_hangs, .selects RX4 yX4_hangs yX4_hangs, .code yX4_hangs cX4_hangs 6 (some .boolean), .methodLink RX4 240 yX4_bit, .instanceMethod yX4_bit, .selects RX4 yX4_bit yX4_bit, .code yX4_bit cX4_bit 3 (some .boolean), .fieldLink RX4 47 "DiagramBenchModel" "bits" "[J"] ++ wsX40)
def wsX4_top : List Cond := .code yX4_top cX4_top 3 (some .int) :: ([.fieldLink RX4 29 "DiagramBenchModel" "order" "[I", .methodLink RX4 223 yX4_isFunction, .instanceMethod yX4_isFunction, .selects RX4 yX4_isFunction yX4_isFunction, .initialized RX4, .code yX4_isFunction cX4_isFunction 2 (some .boolean), .fieldLink RX4 44 "DiagramBenchModel" "has" "[Z", .methodLink RX4 210 yX4_isHandle, .static yX4_isHandle, .code yX4_isHandle cX4_isHandle 1 (some .boolean), .methodLink RX4 112 yX4_in, .static yX4_in, .code yX4_in cX4_in 3 (some .boolean), .methodLink RX4 243 yX4_hangs, .instanceMethod yX4_hangs, .selects RX4 yX4_hangs yX4_hangs, .code yX4_hangs cX4_hangs 6 (some .boolean), .methodLink RX4 240 yX4_bit, .instanceMethod yX4_bit, .selects RX4 yX4_bit yX4_bit, .code yX4_bit cX4_bit 3 (some .boolean), .fieldLink RX4 47 "DiagramBenchModel" "bits" "[J"] ++ wsX40)
def wsX4_level : List Cond := .code yX4_level cX4_level 5 (some .int) :: ([.fieldLink RX4 51 "DiagramBenchModel" "nodeMany" "[I", .fieldLink RX4 57 "DiagramBenchModel" "depth" "[I", .fieldLink RX4 54 "DiagramBenchModel" "nodeOf" "[I", .fieldLink RX4 32 "DiagramBenchModel" "placeOf" "[I", .methodLink RX4 223 yX4_isFunction, .instanceMethod yX4_isFunction, .selects RX4 yX4_isFunction yX4_isFunction, .initialized RX4, .code yX4_isFunction cX4_isFunction 2 (some .boolean), .fieldLink RX4 44 "DiagramBenchModel" "has" "[Z", .methodLink RX4 210 yX4_isHandle, .static yX4_isHandle, .code yX4_isHandle cX4_isHandle 1 (some .boolean), .methodLink RX4 112 yX4_in, .static yX4_in, .code yX4_in cX4_in 3 (some .boolean)] ++ wsX40)
def wsX4_leastOf : List Cond := .code yX4_leastOf cX4_leastOf 4 (some .int) :: ([.methodLink RX4 240 yX4_bit, .instanceMethod yX4_bit, .selects RX4 yX4_bit yX4_bit, .initialized RX4, .code yX4_bit cX4_bit 3 (some .boolean), .fieldLink RX4 47 "DiagramBenchModel" "bits" "[J"] ++ wsX40)
def wsX4_least_r1 : List Cond := [Cond.methodLink RX4 223 yX4_isFunction, Cond.instanceMethod yX4_isFunction, Cond.selects RX4 yX4_isFunction yX4_isFunction, Cond.initialized RX4, Cond.code yX4_isFunction cX4_isFunction 2 (some .boolean), Cond.fieldLink RX4 44 "DiagramBenchModel" "has" "[Z", Cond.methodLink RX4 210 yX4_isHandle, Cond.static yX4_isHandle, Cond.code yX4_isHandle cX4_isHandle 1 (some .boolean), Cond.methodLink RX4 112 yX4_in, Cond.static yX4_in, Cond.code yX4_in cX4_in 3 (some .boolean), Cond.methodLink RX4 246 yX4_leastOf, Cond.instanceMethod yX4_leastOf, Cond.selects RX4 yX4_leastOf yX4_leastOf, Cond.code yX4_leastOf cX4_leastOf 4 (some .int), Cond.methodLink RX4 240 yX4_bit, Cond.instanceMethod yX4_bit, Cond.selects RX4 yX4_bit yX4_bit, Cond.code yX4_bit cX4_bit 3 (some .boolean), Cond.fieldLink RX4 47 "DiagramBenchModel" "bits" "[J", Cond.methodLink RX4 250 yX4_assignmentAt, Cond.instanceMethod yX4_assignmentAt, Cond.selects RX4 yX4_assignmentAt yX4_assignmentAt]
def wsX4_least_r2 : List Cond := [Cond.code yX4_assignmentAt cX4_assignmentAt 4 (some .int), Cond.fieldLink RX4 29 "DiagramBenchModel" "order" "[I"]
def wsX4_least : List Cond := .code yX4_least cX4_least 4 (some .int) :: ((wsX4_least_r1 ++ wsX4_least_r2) ++ wsX40)
def wsX4_paths : List Cond := .code yX4_paths cX4_paths 5 (some .int) :: ([.fieldLink RX4 99 "DiagramBenchModel" "ways" "[I", .methodLink RX4 223 yX4_isFunction, .instanceMethod yX4_isFunction, .selects RX4 yX4_isFunction yX4_isFunction, .initialized RX4, .code yX4_isFunction cX4_isFunction 2 (some .boolean), .fieldLink RX4 44 "DiagramBenchModel" "has" "[Z", .methodLink RX4 210 yX4_isHandle, .static yX4_isHandle, .code yX4_isHandle cX4_isHandle 1 (some .boolean), .methodLink RX4 112 yX4_in, .static yX4_in, .code yX4_in cX4_in 3 (some .boolean), .methodLink RX4 240 yX4_bit, .instanceMethod yX4_bit, .selects RX4 yX4_bit yX4_bit, .code yX4_bit cX4_bit 3 (some .boolean), .fieldLink RX4 47 "DiagramBenchModel" "bits" "[J", .methodLink RX4 163 yX4_lays, .instanceMethod yX4_lays, .selects RX4 yX4_lays yX4_lays, .code yX4_lays cX4_lays 10 (some .boolean), .fieldLink RX4 75 "DiagramBenchModel" "part" "[J"] ++ wsX40)
def wsX4_equal_r1 : List Cond := [Cond.fieldLink RX4 13 "DiagramBenchModel" "outputs" "[I", Cond.fieldLink RX4 22 "DiagramBenchModel" "outputAt" "[I", Cond.fieldLink RX4 106 "DiagramBenchModel" "parted" "I", Cond.fieldLink RX4 109 "DiagramBenchModel" "parting" "I", Cond.methodLink RX4 116 yX4_isNet, Cond.static yX4_isNet, Cond.initialized RX4, Cond.code yX4_isNet cX4_isNet 1 (some .boolean), Cond.methodLink RX4 112 yX4_in, Cond.static yX4_in, Cond.code yX4_in cX4_in 3 (some .boolean), Cond.methodLink RX4 213 yX4_begin, Cond.instanceMethod yX4_begin, Cond.selects RX4 yX4_begin yX4_begin, Cond.code yX4_begin cX4_begin 1 none, Cond.fieldLink RX4 176 "DiagramBenchModel" "peak" "I", Cond.methodLink RX4 216 yX4_builds, Cond.instanceMethod yX4_builds, Cond.selects RX4 yX4_builds yX4_builds, Cond.code yX4_builds cX4_builds 7 (some .boolean), Cond.fieldLink RX4 93 "DiagramBenchModel" "needed" "[Z", Cond.fieldLink RX4 16 "DiagramBenchModel" "kind" "[I", Cond.fieldLink RX4 19 "DiagramBenchModel" "of" "[I", Cond.fieldLink RX4 96 "DiagramBenchModel" "lastNeed" "[I"]
def wsX4_equal_r2 : List Cond := [Cond.methodLink RX4 194 yX4_needs, Cond.instanceMethod yX4_needs, Cond.selects RX4 yX4_needs yX4_needs, Cond.code yX4_needs cX4_needs 7 none, Cond.methodLink RX4 120 yX4_wants, Cond.static yX4_wants, Cond.code yX4_wants cX4_wants 1 (some .int), Cond.methodLink RX4 197 yX4_makeVariable, Cond.instanceMethod yX4_makeVariable, Cond.selects RX4 yX4_makeVariable yX4_makeVariable, Cond.code yX4_makeVariable cX4_makeVariable 5 none, Cond.fieldLink RX4 32 "DiagramBenchModel" "placeOf" "[I", Cond.fieldLink RX4 47 "DiagramBenchModel" "bits" "[J", Cond.fieldLink RX4 90 "DiagramBenchModel" "where" "[J", Cond.constantLong RX4 188 (-1), Cond.methodLink RX4 200 yX4_makeChoice, Cond.instanceMethod yX4_makeChoice, Cond.selects RX4 yX4_makeChoice yX4_makeChoice, Cond.code yX4_makeChoice cX4_makeChoice 8 none, Cond.methodLink RX4 204 yX4_makeOf, Cond.instanceMethod yX4_makeOf, Cond.selects RX4 yX4_makeOf yX4_makeOf, Cond.code yX4_makeOf cX4_makeOf 6 none, Cond.methodLink RX4 190 yX4_joined]
def wsX4_equal_r3 : List Cond := [Cond.static yX4_joined, Cond.code yX4_joined cX4_joined 5 (some .long), Cond.methodLink RX4 207 yX4_steps, Cond.instanceMethod yX4_steps, Cond.selects RX4 yX4_steps yX4_steps, Cond.code yX4_steps cX4_steps 2 (some .boolean), Cond.fieldLink RX4 149 "DiagramBenchModel" "using" "I", Cond.fieldLink RX4 102 "DiagramBenchModel" "room" "I", Cond.methodLink RX4 173 yX4_add, Cond.instanceMethod yX4_add, Cond.selects RX4 yX4_add yX4_add, Cond.code yX4_add cX4_add 5 none, Cond.fieldLink RX4 44 "DiagramBenchModel" "has" "[Z", Cond.fieldLink RX4 51 "DiagramBenchModel" "nodeMany" "[I", Cond.fieldLink RX4 160 "DiagramBenchModel" "marked" "I", Cond.fieldLink RX4 72 "DiagramBenchModel" "mark" "[I", Cond.fieldLink RX4 63 "DiagramBenchModel" "held" "[I", Cond.fieldLink RX4 54 "DiagramBenchModel" "nodeOf" "[I", Cond.methodLink RX4 163 yX4_lays, Cond.instanceMethod yX4_lays, Cond.selects RX4 yX4_lays yX4_lays, Cond.code yX4_lays cX4_lays 10 (some .boolean), Cond.fieldLink RX4 75 "DiagramBenchModel" "part" "[J", Cond.methodLink RX4 166 yX4_nodeFor]
def wsX4_equal_r4 : List Cond := [Cond.instanceMethod yX4_nodeFor, Cond.selects RX4 yX4_nodeFor yX4_nodeFor, Cond.code yX4_nodeFor cX4_nodeFor 5 (some .int), Cond.fieldLink RX4 69 "DiagramBenchModel" "head" "[I", Cond.fieldLink RX4 57 "DiagramBenchModel" "depth" "[I", Cond.fieldLink RX4 60 "DiagramBenchModel" "key" "[J", Cond.fieldLink RX4 66 "DiagramBenchModel" "next" "[I", Cond.fieldLink RX4 157 "DiagramBenchModel" "free" "I", Cond.methodLink RX4 154 yX4_bucket, Cond.instanceMethod yX4_bucket, Cond.selects RX4 yX4_bucket yX4_bucket, Cond.code yX4_bucket cX4_bucket 5 (some .int), Cond.constantLong RX4 152 (1000003), Cond.methodLink RX4 179 yX4_remove, Cond.instanceMethod yX4_remove, Cond.selects RX4 yX4_remove yX4_remove, Cond.code yX4_remove cX4_remove 4 none, Cond.methodLink RX4 169 yX4_unlink, Cond.instanceMethod yX4_unlink, Cond.selects RX4 yX4_unlink yX4_unlink, Cond.code yX4_unlink cX4_unlink 4 none, Cond.methodLink RX4 182 yX4_take, Cond.instanceMethod yX4_take, Cond.selects RX4 yX4_take yX4_take]
def wsX4_equal_r5 : List Cond := [Cond.code yX4_take cX4_take 4 none, Cond.methodLink RX4 246 yX4_leastOf, Cond.instanceMethod yX4_leastOf, Cond.selects RX4 yX4_leastOf yX4_leastOf, Cond.code yX4_leastOf cX4_leastOf 4 (some .int), Cond.methodLink RX4 240 yX4_bit, Cond.instanceMethod yX4_bit, Cond.selects RX4 yX4_bit yX4_bit, Cond.code yX4_bit cX4_bit 3 (some .boolean), Cond.methodLink RX4 185 yX4_clearHand, Cond.instanceMethod yX4_clearHand, Cond.selects RX4 yX4_clearHand yX4_clearHand, Cond.code yX4_clearHand cX4_clearHand 2 none, Cond.methodLink RX4 250 yX4_assignmentAt, Cond.instanceMethod yX4_assignmentAt, Cond.selects RX4 yX4_assignmentAt yX4_assignmentAt, Cond.code yX4_assignmentAt cX4_assignmentAt 4 (some .int), Cond.fieldLink RX4 29 "DiagramBenchModel" "order" "[I"]
def wsX4_equal : List Cond := .code yX4_equal cX4_equal 8 (some .int) :: ((wsX4_equal_r1 ++ (wsX4_equal_r2 ++ (wsX4_equal_r3 ++ (wsX4_equal_r4 ++ wsX4_equal_r5)))) ++ wsX40)
def wsX4_parting : List Cond := .code yX4_parting cX4_parting 2 (some .int) :: ([.fieldLink RX4 106 "DiagramBenchModel" "parted" "I", .fieldLink RX4 109 "DiagramBenchModel" "parting" "I"] ++ wsX40)
def wsX4_told : List Cond := .code yX4_told cX4_told 4 (some .int) :: ([.fieldLink RX4 7 "DiagramBenchModel" "gates" "[I", .fieldLink RX4 13 "DiagramBenchModel" "outputs" "[I", .fieldLink RX4 44 "DiagramBenchModel" "has" "[Z", .fieldLink RX4 102 "DiagramBenchModel" "room" "I", .methodLink RX4 112 yX4_in, .static yX4_in, .initialized RX4, .code yX4_in cX4_in 3 (some .boolean)] ++ wsX40)
def wsJ9_max_7cf53 : List Cond := .code yJ9_max_7cf53 cJ9_max_7cf53 2 (some .int) :: ([])
def wsJ9_min_7cf53 : List Cond := .code yJ9_min_7cf53 cJ9_min_7cf53 2 (some .int) :: ([])
def wsL_law_r1 : List Cond := [Cond.classLink RL 7 RX3, Cond.instantiable RX3 11, Cond.initialized RX3, Cond.classLink RL 10 RX4, Cond.instantiable RX4 35, Cond.initialized RX4, Cond.methodLink RL 9 yX3_init, Cond.instanceMethod yX3_init, Cond.code yX3_init cX3_init 2 none, Cond.methodLink RX3 3 objectInit, Cond.instanceMethod objectInit, Cond.code objectInit ⟨#[0xb1]⟩ 1 none, Cond.classLink RX3 9 RX0, Cond.fieldLink RX3 11 "DiagramBench" "nets" "[LDiagramBench$Net;", Cond.classLink RX3 15 RX1, Cond.instantiable RX1 3, Cond.initialized RX1, Cond.fieldLink RX3 18 "DiagramBench" "places" "LDiagramBench$Order;", Cond.classLink RX3 22 RX2, Cond.instantiable RX2 9, Cond.initialized RX2, Cond.fieldLink RX3 25 "DiagramBench" "pool" "LDiagramBench$Pool;", Cond.arrayClass .int, Cond.fieldLink RX3 29 "DiagramBench" "held" "[I"]
def wsL_law_r2 : List Cond := [Cond.fieldLink RX3 33 "DiagramBench" "ofGate" "[I", Cond.fieldLink RX3 36 "DiagramBench" "lastNeed" "[I", Cond.fieldLink RX3 39 "DiagramBench" "kept" "[I", Cond.fieldLink RX3 42 "DiagramBench" "keptCount" "I", Cond.fieldLink RX3 46 "DiagramBench" "mostInUse" "I", Cond.fieldLink RX3 49 "DiagramBench" "partedOutput" "I", Cond.fieldLink RX3 52 "DiagramBench" "partedAssignment" "I", Cond.instantiable RX0 6, Cond.initialized RX0, Cond.methodLink RX3 17 yX1_init, Cond.instanceMethod yX1_init, Cond.code yX1_init cX1_init 2 none, Cond.methodLink RX1 3 objectInit, Cond.fieldLink RX1 9 "DiagramBench$Order" "variables" "[I", Cond.fieldLink RX1 15 "DiagramBench$Order" "placesOf" "[I", Cond.fieldLink RX1 18 "DiagramBench$Order" "met" "I", Cond.methodLink RX3 24 yX2_init, Cond.instanceMethod yX2_init, Cond.code yX2_init cX2_init 1 none, Cond.methodLink RX2 3 objectInit, Cond.fieldLink RX2 11 "DiagramBench$Pool" "places" "[I", Cond.fieldLink RX2 15 "DiagramBench$Pool" "lows" "[I", Cond.fieldLink RX2 18 "DiagramBench$Pool" "highs" "[I", Cond.fieldLink RX2 21 "DiagramBench$Pool" "marks" "[I"]
def wsL_law_r3 : List Cond := [Cond.fieldLink RX2 24 "DiagramBench$Pool" "next" "[I", Cond.fieldLink RX2 27 "DiagramBench$Pool" "rows" "[I", Cond.fieldLink RX2 30 "DiagramBench$Pool" "firstFree" "I", Cond.fieldLink RX2 34 "DiagramBench$Pool" "used" "I", Cond.fieldLink RX2 37 "DiagramBench$Pool" "most" "I", Cond.methodLink RX2 40 yX2_sweep, Cond.instanceMethod yX2_sweep, Cond.selects RX2 yX2_sweep yX2_sweep, Cond.code yX2_sweep cX2_sweep 2 none, Cond.methodLink RX2 43 yJ7_fill_53178, Cond.static yJ7_fill_53178, Cond.initialized RJ7, Cond.code yJ7_fill_53178 cJ7_fill_53178 4 none, Cond.methodLink RX2 64 yX2_enter, Cond.instanceMethod yX2_enter, Cond.selects RX2 yX2_enter yX2_enter, Cond.code yX2_enter cX2_enter 3 none, Cond.methodLink RX3 55 yX0_init, Cond.instanceMethod yX0_init, Cond.code yX0_init cX0_init 1 none, Cond.methodLink RX0 3 objectInit, Cond.fieldLink RX0 9 "DiagramBench$Net" "kinds" "[I", Cond.fieldLink RX0 15 "DiagramBench$Net" "operands" "[I", Cond.fieldLink RX0 18 "DiagramBench$Net" "outputGates" "[I"]
def wsL_law_r4 : List Cond := [Cond.fieldLink RX0 21 "DiagramBench$Net" "ofGates" "[I", Cond.fieldLink RX0 24 "DiagramBench$Net" "gates" "I", Cond.fieldLink RX0 28 "DiagramBench$Net" "outputs" "I", Cond.methodLink RX3 56 yJ7_fill_53178, Cond.methodLink RL 12 yX4_init, Cond.instanceMethod yX4_init, Cond.code yX4_init cX4_init 2 none, Cond.methodLink RX4 1 objectInit, Cond.fieldLink RX4 7 "DiagramBenchModel" "gates" "[I", Cond.fieldLink RX4 13 "DiagramBenchModel" "outputs" "[I", Cond.fieldLink RX4 16 "DiagramBenchModel" "kind" "[I", Cond.fieldLink RX4 19 "DiagramBenchModel" "of" "[I", Cond.fieldLink RX4 22 "DiagramBenchModel" "outputAt" "[I", Cond.arrayClass .boolean, Cond.fieldLink RX4 25 "DiagramBenchModel" "on" "[Z", Cond.fieldLink RX4 29 "DiagramBenchModel" "order" "[I", Cond.fieldLink RX4 32 "DiagramBenchModel" "placeOf" "[I", Cond.fieldLink RX4 35 "DiagramBenchModel" "seen" "[Z", Cond.fieldLink RX4 38 "DiagramBenchModel" "pile" "[I", Cond.fieldLink RX4 41 "DiagramBenchModel" "child" "[I", Cond.fieldLink RX4 44 "DiagramBenchModel" "has" "[Z", Cond.arrayClass .long, Cond.fieldLink RX4 47 "DiagramBenchModel" "bits" "[J", Cond.fieldLink RX4 51 "DiagramBenchModel" "nodeMany" "[I"]
def wsL_law_r5 : List Cond := [Cond.fieldLink RX4 54 "DiagramBenchModel" "nodeOf" "[I", Cond.fieldLink RX4 57 "DiagramBenchModel" "depth" "[I", Cond.fieldLink RX4 60 "DiagramBenchModel" "key" "[J", Cond.fieldLink RX4 63 "DiagramBenchModel" "held" "[I", Cond.fieldLink RX4 66 "DiagramBenchModel" "next" "[I", Cond.fieldLink RX4 69 "DiagramBenchModel" "head" "[I", Cond.fieldLink RX4 72 "DiagramBenchModel" "mark" "[I", Cond.fieldLink RX4 75 "DiagramBenchModel" "part" "[J", Cond.constantLong RX4 78 (-4294967296), Cond.constantLong RX4 80 (-281470681808896), Cond.constantLong RX4 82 (-71777214294589696), Cond.constantLong RX4 84 (-1085102592571150096), Cond.constantLong RX4 86 (-3689348814741910324), Cond.constantLong RX4 88 (-6148914691236517206), Cond.fieldLink RX4 90 "DiagramBenchModel" "where" "[J", Cond.fieldLink RX4 93 "DiagramBenchModel" "needed" "[Z", Cond.fieldLink RX4 96 "DiagramBenchModel" "lastNeed" "[I", Cond.fieldLink RX4 99 "DiagramBenchModel" "ways" "[I", Cond.fieldLink RX4 102 "DiagramBenchModel" "room" "I", Cond.fieldLink RX4 106 "DiagramBenchModel" "parted" "I", Cond.fieldLink RX4 109 "DiagramBenchModel" "parting" "I", Cond.methodLink RL 13 yX3_gate, Cond.instanceMethod yX3_gate, Cond.selects RX3 yX3_gate yX3_gate]
def wsL_law_r6 : List Cond := [Cond.code yX3_gate cX3_gate 6 (some .int), Cond.methodLink RX3 62 yX3_isNet, Cond.static yX3_isNet, Cond.code yX3_isNet cX3_isNet 1 (some .boolean), Cond.methodLink RX3 66 yX0_hasOperands, Cond.instanceMethod yX0_hasOperands, Cond.selects RX0 yX0_hasOperands yX0_hasOperands, Cond.code yX0_hasOperands cX0_hasOperands 6 (some .boolean), Cond.methodLink RX0 34 yX0_hasGate, Cond.instanceMethod yX0_hasGate, Cond.selects RX0 yX0_hasGate yX0_hasGate, Cond.code yX0_hasGate cX0_hasGate 2 (some .boolean), Cond.methodLink RX3 70 yX3_isVariable, Cond.static yX3_isVariable, Cond.code yX3_isVariable cX3_isVariable 1 (some .boolean), Cond.methodLink RX3 73 yX0_addGate, Cond.instanceMethod yX0_addGate, Cond.selects RX0 yX0_addGate yX0_addGate, Cond.code yX0_addGate cX0_addGate 5 (some .int), Cond.methodLink RL 17 yX4_gate, Cond.instanceMethod yX4_gate, Cond.selects RX4 yX4_gate yX4_gate, Cond.code yX4_gate cX4_gate 8 (some .int), Cond.methodLink RX4 116 yX4_isNet]
def wsL_law_r7 : List Cond := [Cond.static yX4_isNet, Cond.code yX4_isNet cX4_isNet 1 (some .boolean), Cond.methodLink RX4 112 yX4_in, Cond.static yX4_in, Cond.code yX4_in cX4_in 3 (some .boolean), Cond.methodLink RX4 120 yX4_wants, Cond.static yX4_wants, Cond.code yX4_wants cX4_wants 1 (some .int), Cond.methodLink RX4 124 yX4_isGate, Cond.instanceMethod yX4_isGate, Cond.selects RX4 yX4_isGate yX4_isGate, Cond.code yX4_isGate cX4_isGate 3 (some .boolean), Cond.methodLink RL 18 yX3_output, Cond.instanceMethod yX3_output, Cond.selects RX3 yX3_output yX3_output, Cond.code yX3_output cX3_output 3 (some .int), Cond.methodLink RX3 77 yX0_hasGate, Cond.methodLink RX3 80 yX0_addOutput, Cond.instanceMethod yX0_addOutput, Cond.selects RX0 yX0_addOutput yX0_addOutput, Cond.code yX0_addOutput cX0_addOutput 2 (some .int), Cond.methodLink RL 22 yX4_output, Cond.instanceMethod yX4_output, Cond.selects RX4 yX4_output yX4_output]
def wsL_law_r8 : List Cond := [Cond.code yX4_output cX4_output 3 (some .int), Cond.methodLink RL 23 yX3_clear, Cond.instanceMethod yX3_clear, Cond.selects RX3 yX3_clear yX3_clear, Cond.code yX3_clear cX3_clear 2 (some .int), Cond.methodLink RX3 84 yX0_empty, Cond.instanceMethod yX0_empty, Cond.selects RX0 yX0_empty yX0_empty, Cond.code yX0_empty cX0_empty 2 (some .int), Cond.methodLink RL 27 yX4_clear, Cond.instanceMethod yX4_clear, Cond.selects RX4 yX4_clear yX4_clear, Cond.code yX4_clear cX4_clear 3 (some .int), Cond.methodLink RL 28 yX3_gives, Cond.instanceMethod yX3_gives, Cond.selects RX3 yX3_gives yX3_gives, Cond.code yX3_gives cX3_gives 4 (some .int), Cond.methodLink RX3 88 yX0_hasOutput, Cond.instanceMethod yX0_hasOutput, Cond.selects RX0 yX0_hasOutput yX0_hasOutput, Cond.code yX0_hasOutput cX0_hasOutput 2 (some .boolean), Cond.methodLink RX3 91 yX3_isAssignment, Cond.static yX3_isAssignment, Cond.code yX3_isAssignment cX3_isAssignment 1 (some .boolean)]
def wsL_law_r9 : List Cond := [Cond.methodLink RX3 94 yX0_outputValue, Cond.instanceMethod yX0_outputValue, Cond.selects RX0 yX0_outputValue yX0_outputValue, Cond.code yX0_outputValue cX0_outputValue 5 (some .int), Cond.methodLink RX0 38 yX0_gateValue, Cond.instanceMethod yX0_gateValue, Cond.selects RX0 yX0_gateValue yX0_gateValue, Cond.code yX0_gateValue cX0_gateValue 6 (some .int), Cond.methodLink RX0 42 yX0_operand, Cond.instanceMethod yX0_operand, Cond.selects RX0 yX0_operand yX0_operand, Cond.code yX0_operand cX0_operand 3 (some .int), Cond.methodLink RL 32 yX4_gives, Cond.instanceMethod yX4_gives, Cond.selects RX4 yX4_gives yX4_gives, Cond.code yX4_gives cX4_gives 10 (some .int), Cond.methodLink RX4 128 yX4_isOutput, Cond.instanceMethod yX4_isOutput, Cond.selects RX4 yX4_isOutput yX4_isOutput, Cond.code yX4_isOutput cX4_isOutput 3 (some .boolean), Cond.methodLink RX4 131 yX4_combined, Cond.static yX4_combined, Cond.code yX4_combined cX4_combined 3 (some .boolean), Cond.methodLink RL 33 yX3_order]
def wsL_law_r10 : List Cond := [Cond.instanceMethod yX3_order, Cond.selects RX3 yX3_order yX3_order, Cond.code yX3_order cX3_order 2 (some .int), Cond.methodLink RX3 98 yX3_heldCount, Cond.instanceMethod yX3_heldCount, Cond.selects RX3 yX3_heldCount yX3_heldCount, Cond.code yX3_heldCount cX3_heldCount 3 (some .int), Cond.methodLink RX3 101 yX1_forget, Cond.instanceMethod yX1_forget, Cond.selects RX1 yX1_forget yX1_forget, Cond.code yX1_forget cX1_forget 1 none, Cond.methodLink RX1 22 yJ7_fill_53178, Cond.methodLink RX3 104 yX0_meetVariables, Cond.instanceMethod yX0_meetVariables, Cond.selects RX0 yX0_meetVariables yX0_meetVariables, Cond.code yX0_meetVariables cX0_meetVariables 3 none, Cond.methodLink RX0 48 yJ7_fill_53178, Cond.methodLink RX0 58 yX0_goInto, Cond.instanceMethod yX0_goInto, Cond.selects RX0 yX0_goInto yX0_goInto, Cond.code yX0_goInto cX0_goInto 5 none, Cond.methodLink RX0 62 yX1_meet, Cond.instanceMethod yX1_meet, Cond.selects RX1 yX1_meet yX1_meet]
def wsL_law_r11 : List Cond := [Cond.code yX1_meet cX1_meet 2 none, Cond.methodLink RX1 28 yX1_put, Cond.instanceMethod yX1_put, Cond.selects RX1 yX1_put yX1_put, Cond.code yX1_put cX1_put 3 none, Cond.methodLink RX3 108 yX1_meetOthers, Cond.instanceMethod yX1_meetOthers, Cond.selects RX1 yX1_meetOthers yX1_meetOthers, Cond.code yX1_meetOthers cX1_meetOthers 3 (some .int), Cond.methodLink RX1 32 yX1_meet, Cond.methodLink RL 36 yX4_order, Cond.instanceMethod yX4_order, Cond.selects RX4 yX4_order yX4_order, Cond.code yX4_order cX4_order 5 (some .int), Cond.fieldLink RX4 138 "DiagramBenchModel" "found" "I", Cond.fieldLink RX4 135 "DiagramBenchModel" "piled" "I", Cond.methodLink RX4 141 yX4_isEmpty, Cond.instanceMethod yX4_isEmpty, Cond.selects RX4 yX4_isEmpty yX4_isEmpty, Cond.code yX4_isEmpty cX4_isEmpty 3 (some .boolean), Cond.methodLink RX4 145 yX4_go, Cond.instanceMethod yX4_go, Cond.selects RX4 yX4_go yX4_go, Cond.code yX4_go cX4_go 4 none]
def wsL_law_r12 : List Cond := [Cond.methodLink RL 37 yX3_move, Cond.instanceMethod yX3_move, Cond.selects RX3 yX3_move yX3_move, Cond.code yX3_move cX3_move 3 (some .int), Cond.methodLink RX3 111 yX1_moveTo, Cond.instanceMethod yX1_moveTo, Cond.selects RX1 yX1_moveTo yX1_moveTo, Cond.code yX1_moveTo cX1_moveTo 5 (some .int), Cond.methodLink RL 40 yX4_move, Cond.instanceMethod yX4_move, Cond.selects RX4 yX4_move yX4_move, Cond.code yX4_move cX4_move 6 (some .int), Cond.methodLink RL 41 yX3_at, Cond.instanceMethod yX3_at, Cond.selects RX3 yX3_at yX3_at, Cond.code yX3_at cX3_at 2 (some .int), Cond.methodLink RX3 114 yX1_variableAt, Cond.instanceMethod yX1_variableAt, Cond.selects RX1 yX1_variableAt yX1_variableAt, Cond.code yX1_variableAt cX1_variableAt 2 (some .int), Cond.methodLink RL 44 yX4_at, Cond.instanceMethod yX4_at, Cond.selects RX4 yX4_at yX4_at, Cond.code yX4_at cX4_at 2 (some .int)]
def wsL_law_r13 : List Cond := [Cond.methodLink RL 45 yX3_room, Cond.instanceMethod yX3_room, Cond.selects RX3 yX3_room yX3_room, Cond.code yX3_room cX3_room 2 (some .int), Cond.methodLink RX3 117 yX3_inUse, Cond.instanceMethod yX3_inUse, Cond.selects RX3 yX3_inUse yX3_inUse, Cond.code yX3_inUse cX3_inUse 1 (some .int), Cond.methodLink RX3 155 yX3_collect, Cond.instanceMethod yX3_collect, Cond.selects RX3 yX3_collect yX3_collect, Cond.code yX3_collect cX3_collect 2 none, Cond.methodLink RX3 217 yX2_unmark, Cond.instanceMethod yX2_unmark, Cond.selects RX2 yX2_unmark yX2_unmark, Cond.code yX2_unmark cX2_unmark 1 none, Cond.methodLink RX3 220 yX2_mark, Cond.instanceMethod yX2_mark, Cond.selects RX2 yX2_mark yX2_mark, Cond.code yX2_mark cX2_mark 2 none, Cond.methodLink RX2 49 yX2_markWith, Cond.instanceMethod yX2_markWith, Cond.selects RX2 yX2_markWith yX2_markWith, Cond.code yX2_markWith cX2_markWith 4 none]
def wsL_law_r14 : List Cond := [Cond.methodLink RX3 224 yX2_sweep, Cond.methodLink RX3 158 yX2_usedCount, Cond.instanceMethod yX2_usedCount, Cond.selects RX2 yX2_usedCount yX2_usedCount, Cond.code yX2_usedCount cX2_usedCount 1 (some .int), Cond.methodLink RX3 120 yX2_changeLimit, Cond.instanceMethod yX2_changeLimit, Cond.selects RX2 yX2_changeLimit yX2_changeLimit, Cond.code yX2_changeLimit cX2_changeLimit 3 (some .int), Cond.methodLink RL 48 yX4_room, Cond.instanceMethod yX4_room, Cond.selects RX4 yX4_room yX4_room, Cond.code yX4_room cX4_room 3 (some .int), Cond.fieldLink RX4 149 "DiagramBenchModel" "using" "I", Cond.methodLink RL 49 yX3_build, Cond.instanceMethod yX3_build, Cond.selects RX3 yX3_build yX3_build, Cond.code yX3_build cX3_build 4 (some .int), Cond.methodLink RX3 123 yX3_isHandle, Cond.static yX3_isHandle, Cond.code yX3_isHandle cX3_isHandle 1 (some .boolean), Cond.methodLink RX3 126 yX3_beginSteps, Cond.instanceMethod yX3_beginSteps, Cond.selects RX3 yX3_beginSteps yX3_beginSteps]
def wsL_law_r15 : List Cond := [Cond.code yX3_beginSteps cX3_beginSteps 1 none, Cond.methodLink RX3 129 yX3_building, Cond.instanceMethod yX3_building, Cond.selects RX3 yX3_building yX3_building, Cond.code yX3_building cX3_building 7 (some .int), Cond.methodLink RX3 227 yX0_findNeeds, Cond.instanceMethod yX0_findNeeds, Cond.selects RX0 yX0_findNeeds yX0_findNeeds, Cond.code yX0_findNeeds cX0_findNeeds 5 (some .int), Cond.methodLink RX0 54 yX0_noteNeedsOf, Cond.instanceMethod yX0_noteNeedsOf, Cond.selects RX0 yX0_noteNeedsOf yX0_noteNeedsOf, Cond.code yX0_noteNeedsOf cX0_noteNeedsOf 5 none, Cond.methodLink RX3 231 yX0_kindOf, Cond.instanceMethod yX0_kindOf, Cond.selects RX0 yX0_kindOf yX0_kindOf, Cond.code yX0_kindOf cX0_kindOf 2 (some .int), Cond.methodLink RX3 234 yX0_operand, Cond.methodLink RX3 136 yX3_variableStep, Cond.instanceMethod yX3_variableStep, Cond.selects RX3 yX3_variableStep yX3_variableStep, Cond.code yX3_variableStep cX3_variableStep 2 (some .int), Cond.methodLink RX3 174 yX1_placeOf, Cond.instanceMethod yX1_placeOf]
def wsL_law_r16 : List Cond := [Cond.selects RX1 yX1_placeOf yX1_placeOf, Cond.code yX1_placeOf cX1_placeOf 2 (some .int), Cond.methodLink RX3 206 yX2_makeVariable, Cond.instanceMethod yX2_makeVariable, Cond.selects RX2 yX2_makeVariable yX2_makeVariable, Cond.code yX2_makeVariable cX2_makeVariable 2 (some .int), Cond.methodLink RX2 67 yX2_nodeFor, Cond.instanceMethod yX2_nodeFor, Cond.selects RX2 yX2_nodeFor yX2_nodeFor, Cond.code yX2_nodeFor cX2_nodeFor 6 (some .int), Cond.methodLink RX3 203 yX3_measured, Cond.instanceMethod yX3_measured, Cond.selects RX3 yX3_measured yX3_measured, Cond.code yX3_measured cX3_measured 3 (some .int), Cond.methodLink RX3 212 Lib.Math.max.name, Cond.static Lib.Math.max.name, Cond.initialized "java/lang/Math", Cond.code Lib.Math.max.name Lib.Math.max.code 2 (some .int), Cond.methodLink RX3 194 yX2_limit, Cond.instanceMethod yX2_limit, Cond.selects RX2 yX2_limit yX2_limit, Cond.code yX2_limit cX2_limit 1 (some .int), Cond.methodLink RX3 237 yX3_madeFor, Cond.instanceMethod yX3_madeFor]
def wsL_law_r17 : List Cond := [Cond.selects RX3 yX3_madeFor yX3_madeFor, Cond.code yX3_madeFor cX3_madeFor 4 (some .int), Cond.fieldLink RX3 245 "DiagramBench" "OPERANDS" "[I", Cond.methodLink RX3 142 yX3_kindStep, Cond.instanceMethod yX3_kindStep, Cond.selects RX3 yX3_kindStep yX3_kindStep, Cond.code yX3_kindStep cX3_kindStep 5 (some .int), Cond.fieldLink RX3 197 "DiagramBench" "TABLES" "[I", Cond.methodLink RX3 200 yX2_make, Cond.instanceMethod yX2_make, Cond.selects RX2 yX2_make yX2_make, Cond.code yX2_make cX2_make 5 (some .int), Cond.methodLink RX2 71 yX2_makeFrom, Cond.instanceMethod yX2_makeFrom, Cond.selects RX2 yX2_makeFrom yX2_makeFrom, Cond.code yX2_makeFrom cX2_makeFrom 10 (some .int), Cond.methodLink RX2 79 Lib.Math.min.name, Cond.static Lib.Math.min.name, Cond.code Lib.Math.min.name Lib.Math.min.code 2 (some .int), Cond.methodLink RX2 75 yX2_knowing, Cond.static yX2_knowing, Cond.code yX2_knowing cX2_knowing 5 (some .int), Cond.methodLink RX2 85 yX2_lowAt, Cond.instanceMethod yX2_lowAt]
def wsL_law_r18 : List Cond := [Cond.selects RX2 yX2_lowAt yX2_lowAt, Cond.code yX2_lowAt cX2_lowAt 3 (some .int), Cond.methodLink RX2 88 yX2_highAt, Cond.instanceMethod yX2_highAt, Cond.selects RX2 yX2_highAt yX2_highAt, Cond.code yX2_highAt cX2_highAt 3 (some .int), Cond.methodLink RX3 241 yX3_letGoBehind, Cond.instanceMethod yX3_letGoBehind, Cond.selects RX3 yX3_letGoBehind yX3_letGoBehind, Cond.code yX3_letGoBehind cX3_letGoBehind 6 none, Cond.methodLink RX3 149 yX3_keep, Cond.instanceMethod yX3_keep, Cond.selects RX3 yX3_keep yX3_keep, Cond.code yX3_keep cX3_keep 2 (some .int), Cond.methodLink RX3 133 yX3_give, Cond.instanceMethod yX3_give, Cond.selects RX3 yX3_give yX3_give, Cond.code yX3_give cX3_give 3 (some .int), Cond.methodLink RX3 188 yX3_endSteps, Cond.instanceMethod yX3_endSteps, Cond.selects RX3 yX3_endSteps yX3_endSteps, Cond.code yX3_endSteps cX3_endSteps 1 none, Cond.methodLink RX3 152 yX2_nodeCount, Cond.instanceMethod yX2_nodeCount]
def wsL_law_r19 : List Cond := [Cond.selects RX2 yX2_nodeCount yX2_nodeCount, Cond.code yX2_nodeCount cX2_nodeCount 2 (some .int), Cond.methodLink RX2 53 yX2_unmark, Cond.methodLink RX2 56 yX2_mark, Cond.methodLink RX2 60 yX2_markedWith, Cond.instanceMethod yX2_markedWith, Cond.selects RX2 yX2_markedWith yX2_markedWith, Cond.code yX2_markedWith cX2_markedWith 4 (some .int), Cond.methodLink RL 52 yX4_build, Cond.instanceMethod yX4_build, Cond.selects RX4 yX4_build yX4_build, Cond.code yX4_build cX4_build 5 (some .int), Cond.methodLink RX4 210 yX4_isHandle, Cond.static yX4_isHandle, Cond.code yX4_isHandle cX4_isHandle 1 (some .boolean), Cond.methodLink RX4 213 yX4_begin, Cond.instanceMethod yX4_begin, Cond.selects RX4 yX4_begin yX4_begin, Cond.code yX4_begin cX4_begin 1 none, Cond.fieldLink RX4 176 "DiagramBenchModel" "peak" "I", Cond.methodLink RX4 216 yX4_builds, Cond.instanceMethod yX4_builds, Cond.selects RX4 yX4_builds yX4_builds, Cond.code yX4_builds cX4_builds 7 (some .boolean)]
def wsL_law_r20 : List Cond := [Cond.methodLink RX4 194 yX4_needs, Cond.instanceMethod yX4_needs, Cond.selects RX4 yX4_needs yX4_needs, Cond.code yX4_needs cX4_needs 7 none, Cond.methodLink RX4 197 yX4_makeVariable, Cond.instanceMethod yX4_makeVariable, Cond.selects RX4 yX4_makeVariable yX4_makeVariable, Cond.code yX4_makeVariable cX4_makeVariable 5 none, Cond.constantLong RX4 188 (-1), Cond.methodLink RX4 200 yX4_makeChoice, Cond.instanceMethod yX4_makeChoice, Cond.selects RX4 yX4_makeChoice yX4_makeChoice, Cond.code yX4_makeChoice cX4_makeChoice 8 none, Cond.methodLink RX4 204 yX4_makeOf, Cond.instanceMethod yX4_makeOf, Cond.selects RX4 yX4_makeOf yX4_makeOf, Cond.code yX4_makeOf cX4_makeOf 6 none, Cond.methodLink RX4 190 yX4_joined, Cond.static yX4_joined, Cond.code yX4_joined cX4_joined 5 (some .long), Cond.methodLink RX4 207 yX4_steps, Cond.instanceMethod yX4_steps, Cond.selects RX4 yX4_steps yX4_steps, Cond.code yX4_steps cX4_steps 2 (some .boolean)]
def wsL_law_r21 : List Cond := [Cond.methodLink RX4 173 yX4_add, Cond.instanceMethod yX4_add, Cond.selects RX4 yX4_add yX4_add, Cond.code yX4_add cX4_add 5 none, Cond.fieldLink RX4 160 "DiagramBenchModel" "marked" "I", Cond.methodLink RX4 163 yX4_lays, Cond.instanceMethod yX4_lays, Cond.selects RX4 yX4_lays yX4_lays, Cond.code yX4_lays cX4_lays 10 (some .boolean), Cond.methodLink RX4 166 yX4_nodeFor, Cond.instanceMethod yX4_nodeFor, Cond.selects RX4 yX4_nodeFor yX4_nodeFor, Cond.code yX4_nodeFor cX4_nodeFor 5 (some .int), Cond.fieldLink RX4 157 "DiagramBenchModel" "free" "I", Cond.methodLink RX4 154 yX4_bucket, Cond.instanceMethod yX4_bucket, Cond.selects RX4 yX4_bucket yX4_bucket, Cond.code yX4_bucket cX4_bucket 5 (some .int), Cond.constantLong RX4 152 (1000003), Cond.methodLink RX4 179 yX4_remove, Cond.instanceMethod yX4_remove, Cond.selects RX4 yX4_remove yX4_remove, Cond.code yX4_remove cX4_remove 4 none, Cond.methodLink RX4 169 yX4_unlink]
def wsL_law_r22 : List Cond := [Cond.instanceMethod yX4_unlink, Cond.selects RX4 yX4_unlink yX4_unlink, Cond.code yX4_unlink cX4_unlink 4 none, Cond.methodLink RX4 219 yX4_gets, Cond.instanceMethod yX4_gets, Cond.selects RX4 yX4_gets yX4_gets, Cond.code yX4_gets cX4_gets 4 (some .int), Cond.methodLink RX4 182 yX4_take, Cond.instanceMethod yX4_take, Cond.selects RX4 yX4_take yX4_take, Cond.code yX4_take cX4_take 4 none, Cond.methodLink RX4 185 yX4_clearHand, Cond.instanceMethod yX4_clearHand, Cond.selects RX4 yX4_clearHand yX4_clearHand, Cond.code yX4_clearHand cX4_clearHand 2 none, Cond.methodLink RL 53 yX3_variable, Cond.instanceMethod yX3_variable, Cond.selects RX3 yX3_variable yX3_variable, Cond.code yX3_variable cX3_variable 3 (some .int), Cond.methodLink RL 56 yX4_variable, Cond.instanceMethod yX4_variable, Cond.selects RX4 yX4_variable yX4_variable, Cond.code yX4_variable cX4_variable 3 (some .int), Cond.methodLink RL 57 yX3_combine]
def wsL_law_r23 : List Cond := [Cond.instanceMethod yX3_combine, Cond.selects RX3 yX3_combine yX3_combine, Cond.code yX3_combine cX3_combine 7 (some .int), Cond.methodLink RX3 139 yX3_hasFunction, Cond.instanceMethod yX3_hasFunction, Cond.selects RX3 yX3_hasFunction yX3_hasFunction, Cond.code yX3_hasFunction cX3_hasFunction 2 (some .boolean), Cond.methodLink RL 61 yX4_combine, Cond.instanceMethod yX4_combine, Cond.selects RX4 yX4_combine yX4_combine, Cond.code yX4_combine cX4_combine 5 (some .int), Cond.methodLink RX4 223 yX4_isFunction, Cond.instanceMethod yX4_isFunction, Cond.selects RX4 yX4_isFunction yX4_isFunction, Cond.code yX4_isFunction cX4_isFunction 2 (some .boolean), Cond.methodLink RL 62 yX3_choose, Cond.instanceMethod yX3_choose, Cond.selects RX3 yX3_choose yX3_choose, Cond.code yX3_choose cX3_choose 5 (some .int), Cond.methodLink RL 65 yX4_choose, Cond.instanceMethod yX4_choose, Cond.selects RX4 yX4_choose yX4_choose, Cond.code yX4_choose cX4_choose 5 (some .int), Cond.methodLink RL 66 yX3_restrict]
def wsL_law_r24 : List Cond := [Cond.instanceMethod yX3_restrict, Cond.selects RX3 yX3_restrict yX3_restrict, Cond.code yX3_restrict cX3_restrict 5 (some .int), Cond.methodLink RX3 145 yX3_fixStep, Cond.instanceMethod yX3_fixStep, Cond.selects RX3 yX3_fixStep yX3_fixStep, Cond.code yX3_fixStep cX3_fixStep 4 (some .int), Cond.methodLink RX3 209 yX2_makeFixed, Cond.instanceMethod yX2_makeFixed, Cond.selects RX2 yX2_makeFixed yX2_makeFixed, Cond.code yX2_makeFixed cX2_makeFixed 4 (some .int), Cond.methodLink RX2 91 yX2_fixFrom, Cond.instanceMethod yX2_fixFrom, Cond.selects RX2 yX2_fixFrom yX2_fixFrom, Cond.code yX2_fixFrom cX2_fixFrom 7 (some .int), Cond.methodLink RL 70 yX4_restrict, Cond.instanceMethod yX4_restrict, Cond.selects RX4 yX4_restrict yX4_restrict, Cond.code yX4_restrict cX4_restrict 5 (some .int), Cond.methodLink RX4 226 yX4_noHalf, Cond.instanceMethod yX4_noHalf, Cond.selects RX4 yX4_noHalf yX4_noHalf, Cond.code yX4_noHalf cX4_noHalf 4 (some .int), Cond.methodLink RX4 230 yX4_makeHalf]
def wsL_law_r25 : List Cond := [Cond.instanceMethod yX4_makeHalf, Cond.selects RX4 yX4_makeHalf yX4_makeHalf, Cond.code yX4_makeHalf cX4_makeHalf 10 none, Cond.methodLink RL 71 yX3_quantify, Cond.instanceMethod yX3_quantify, Cond.selects RX3 yX3_quantify yX3_quantify, Cond.code yX3_quantify cX3_quantify 7 (some .int), Cond.methodLink RL 74 yX4_quantify, Cond.instanceMethod yX4_quantify, Cond.selects RX4 yX4_quantify yX4_quantify, Cond.code yX4_quantify cX4_quantify 6 (some .int), Cond.methodLink RX4 234 yX4_halves, Cond.instanceMethod yX4_halves, Cond.selects RX4 yX4_halves yX4_halves, Cond.code yX4_halves cX4_halves 3 (some .boolean), Cond.methodLink RL 75 yX3_compose, Cond.instanceMethod yX3_compose, Cond.selects RX3 yX3_compose yX3_compose, Cond.code yX3_compose cX3_compose 7 (some .int), Cond.methodLink RL 78 yX4_compose, Cond.instanceMethod yX4_compose, Cond.selects RX4 yX4_compose yX4_compose, Cond.code yX4_compose cX4_compose 6 (some .int), Cond.methodLink RL 79 yX3_share]
def wsL_law_r26 : List Cond := [Cond.instanceMethod yX3_share, Cond.selects RX3 yX3_share yX3_share, Cond.code yX3_share cX3_share 3 (some .int), Cond.methodLink RL 82 yX4_share, Cond.instanceMethod yX4_share, Cond.selects RX4 yX4_share yX4_share, Cond.code yX4_share cX4_share 3 (some .int), Cond.methodLink RL 83 yX3_drop, Cond.instanceMethod yX3_drop, Cond.selects RX3 yX3_drop yX3_drop, Cond.code yX3_drop cX3_drop 3 (some .int), Cond.methodLink RL 86 yX4_drop, Cond.instanceMethod yX4_drop, Cond.selects RX4 yX4_drop yX4_drop, Cond.code yX4_drop cX4_drop 3 (some .int), Cond.methodLink RL 87 yX3_nodes, Cond.instanceMethod yX3_nodes, Cond.selects RX3 yX3_nodes yX3_nodes, Cond.code yX3_nodes cX3_nodes 2 (some .int), Cond.methodLink RL 90 yX4_nodes, Cond.instanceMethod yX4_nodes, Cond.selects RX4 yX4_nodes yX4_nodes, Cond.code yX4_nodes cX4_nodes 2 (some .int), Cond.methodLink RL 91 yX3_inUse]
def wsL_law_r27 : List Cond := [Cond.methodLink RL 95 yX4_inUse, Cond.instanceMethod yX4_inUse, Cond.selects RX4 yX4_inUse yX4_inUse, Cond.code yX4_inUse cX4_inUse 1 (some .int), Cond.methodLink RL 96 yX3_common, Cond.instanceMethod yX3_common, Cond.selects RX3 yX3_common yX3_common, Cond.code yX3_common cX3_common 3 (some .int), Cond.methodLink RX3 161 yX2_commonCount, Cond.instanceMethod yX2_commonCount, Cond.selects RX2 yX2_commonCount yX2_commonCount, Cond.code yX2_commonCount cX2_commonCount 3 (some .int), Cond.methodLink RL 99 yX4_common, Cond.instanceMethod yX4_common, Cond.selects RX4 yX4_common yX4_common, Cond.code yX4_common cX4_common 6 (some .int), Cond.methodLink RL 100 yX3_peak, Cond.instanceMethod yX3_peak, Cond.selects RX3 yX3_peak yX3_peak, Cond.code yX3_peak cX3_peak 1 (some .int), Cond.methodLink RL 103 yX4_peak, Cond.instanceMethod yX4_peak, Cond.selects RX4 yX4_peak yX4_peak, Cond.code yX4_peak cX4_peak 1 (some .int)]
def wsL_law_r28 : List Cond := [Cond.methodLink RL 104 yX3_value, Cond.instanceMethod yX3_value, Cond.selects RX3 yX3_value yX3_value, Cond.code yX3_value cX3_value 3 (some .int), Cond.methodLink RX3 164 yX2_valueFor, Cond.instanceMethod yX2_valueFor, Cond.selects RX2 yX2_valueFor yX2_valueFor, Cond.code yX2_valueFor cX2_valueFor 7 (some .int), Cond.methodLink RX2 95 yX1_variableAt, Cond.methodLink RL 107 yX4_value, Cond.instanceMethod yX4_value, Cond.selects RX4 yX4_value yX4_value, Cond.code yX4_value cX4_value 3 (some .int), Cond.methodLink RX4 237 yX4_stands, Cond.instanceMethod yX4_stands, Cond.selects RX4 yX4_stands yX4_stands, Cond.code yX4_stands cX4_stands 4 (some .int), Cond.methodLink RX4 240 yX4_bit, Cond.instanceMethod yX4_bit, Cond.selects RX4 yX4_bit yX4_bit, Cond.code yX4_bit cX4_bit 3 (some .boolean), Cond.methodLink RL 108 yX3_same, Cond.instanceMethod yX3_same, Cond.selects RX3 yX3_same yX3_same]
def wsL_law_r29 : List Cond := [Cond.code yX3_same cX3_same 3 (some .int), Cond.methodLink RL 111 yX4_same, Cond.instanceMethod yX4_same, Cond.selects RX4 yX4_same yX4_same, Cond.code yX4_same cX4_same 5 (some .int), Cond.methodLink RL 112 yX3_count, Cond.instanceMethod yX3_count, Cond.selects RX3 yX3_count yX3_count, Cond.code yX3_count cX3_count 4 (some .int), Cond.methodLink RL 115 yX4_count, Cond.instanceMethod yX4_count, Cond.selects RX4 yX4_count yX4_count, Cond.code yX4_count cX4_count 4 (some .int), Cond.methodLink RL 116 yX3_support, Cond.instanceMethod yX3_support, Cond.selects RX3 yX3_support yX3_support, Cond.code yX3_support cX3_support 4 (some .int), Cond.methodLink RX3 168 yX2_nodeCountAt, Cond.instanceMethod yX2_nodeCountAt, Cond.selects RX2 yX2_nodeCountAt yX2_nodeCountAt, Cond.code yX2_nodeCountAt cX2_nodeCountAt 5 (some .int), Cond.methodLink RL 119 yX4_support, Cond.instanceMethod yX4_support, Cond.selects RX4 yX4_support yX4_support]
def wsL_law_r30 : List Cond := [Cond.code yX4_support cX4_support 4 (some .int), Cond.methodLink RX4 243 yX4_hangs, Cond.instanceMethod yX4_hangs, Cond.selects RX4 yX4_hangs yX4_hangs, Cond.code yX4_hangs cX4_hangs 6 (some .boolean), Cond.methodLink RL 120 yX3_top, Cond.instanceMethod yX3_top, Cond.selects RX3 yX3_top yX3_top, Cond.code yX3_top cX3_top 3 (some .int), Cond.methodLink RX3 171 yX2_placeOf, Cond.instanceMethod yX2_placeOf, Cond.selects RX2 yX2_placeOf yX2_placeOf, Cond.code yX2_placeOf cX2_placeOf 2 (some .int), Cond.methodLink RL 123 yX4_top, Cond.instanceMethod yX4_top, Cond.selects RX4 yX4_top yX4_top, Cond.code yX4_top cX4_top 3 (some .int), Cond.methodLink RL 124 yX3_level, Cond.instanceMethod yX3_level, Cond.selects RX3 yX3_level yX3_level, Cond.code yX3_level cX3_level 3 (some .int), Cond.methodLink RL 127 yX4_level, Cond.instanceMethod yX4_level, Cond.selects RX4 yX4_level yX4_level]
def wsL_law_r31 : List Cond := [Cond.code yX4_level cX4_level 5 (some .int), Cond.methodLink RL 128 yX3_least, Cond.instanceMethod yX3_least, Cond.selects RX3 yX3_least yX3_least, Cond.code yX3_least cX3_least 3 (some .int), Cond.methodLink RX3 175 yX2_leastFor, Cond.instanceMethod yX2_leastFor, Cond.selects RX2 yX2_leastFor yX2_leastFor, Cond.code yX2_leastFor cX2_leastFor 7 (some .int), Cond.methodLink RL 132 yX4_least, Cond.instanceMethod yX4_least, Cond.selects RX4 yX4_least yX4_least, Cond.code yX4_least cX4_least 4 (some .int), Cond.methodLink RX4 246 yX4_leastOf, Cond.instanceMethod yX4_leastOf, Cond.selects RX4 yX4_leastOf yX4_leastOf, Cond.code yX4_leastOf cX4_leastOf 4 (some .int), Cond.methodLink RX4 250 yX4_assignmentAt, Cond.instanceMethod yX4_assignmentAt, Cond.selects RX4 yX4_assignmentAt yX4_assignmentAt, Cond.code yX4_assignmentAt cX4_assignmentAt 4 (some .int), Cond.methodLink RL 133 yX3_paths, Cond.instanceMethod yX3_paths, Cond.selects RX3 yX3_paths yX3_paths]
def wsL_law_r32 : List Cond := [Cond.code yX3_paths cX3_paths 3 (some .int), Cond.methodLink RX3 178 yX2_pathCount, Cond.instanceMethod yX2_pathCount, Cond.selects RX2 yX2_pathCount yX2_pathCount, Cond.code yX2_pathCount cX2_pathCount 3 (some .int), Cond.methodLink RX2 100 yX2_pathsFrom, Cond.instanceMethod yX2_pathsFrom, Cond.selects RX2 yX2_pathsFrom yX2_pathsFrom, Cond.code yX2_pathsFrom cX2_pathsFrom 4 (some .int), Cond.methodLink RL 136 yX4_paths, Cond.instanceMethod yX4_paths, Cond.selects RX4 yX4_paths yX4_paths, Cond.code yX4_paths cX4_paths 5 (some .int), Cond.methodLink RL 137 yX3_equal, Cond.instanceMethod yX3_equal, Cond.selects RX3 yX3_equal yX3_equal, Cond.code yX3_equal cX3_equal 8 (some .int), Cond.methodLink RX3 181 yX0_outputCount, Cond.instanceMethod yX0_outputCount, Cond.selects RX0 yX0_outputCount yX0_outputCount, Cond.code yX0_outputCount cX0_outputCount 1 (some .int), Cond.methodLink RX3 184 yX3_notePart, Cond.instanceMethod yX3_notePart, Cond.selects RX3 yX3_notePart yX3_notePart]
def wsL_law_r33 : List Cond := [Cond.code yX3_notePart cX3_notePart 3 none, Cond.methodLink RL 140 yX4_equal, Cond.instanceMethod yX4_equal, Cond.selects RX4 yX4_equal yX4_equal, Cond.code yX4_equal cX4_equal 8 (some .int), Cond.methodLink RL 141 yX3_parting, Cond.instanceMethod yX3_parting, Cond.selects RX3 yX3_parting yX3_parting, Cond.code yX3_parting cX3_parting 2 (some .int), Cond.methodLink RL 144 yX4_parting, Cond.instanceMethod yX4_parting, Cond.selects RX4 yX4_parting yX4_parting, Cond.code yX4_parting cX4_parting 2 (some .int), Cond.methodLink RL 145 yX3_told, Cond.instanceMethod yX3_told, Cond.selects RX3 yX3_told yX3_told, Cond.code yX3_told cX3_told 2 (some .int), Cond.methodLink RX3 191 yX0_gateCount, Cond.instanceMethod yX0_gateCount, Cond.selects RX0 yX0_gateCount yX0_gateCount, Cond.code yX0_gateCount cX0_gateCount 1 (some .int), Cond.methodLink RL 148 yX4_told, Cond.instanceMethod yX4_told, Cond.selects RX4 yX4_told yX4_told]
def wsL_law_r34 : List Cond := [Cond.code yX4_told cX4_told 4 (some .int)]
def wsL_law : List Cond := (wsL_law_r1 ++ (wsL_law_r2 ++ (wsL_law_r3 ++ (wsL_law_r4 ++ (wsL_law_r5 ++ (wsL_law_r6 ++ (wsL_law_r7 ++ (wsL_law_r8 ++ (wsL_law_r9 ++ (wsL_law_r10 ++ (wsL_law_r11 ++ (wsL_law_r12 ++ (wsL_law_r13 ++ (wsL_law_r14 ++ (wsL_law_r15 ++ (wsL_law_r16 ++ (wsL_law_r17 ++ (wsL_law_r18 ++ (wsL_law_r19 ++ (wsL_law_r20 ++ (wsL_law_r21 ++ (wsL_law_r22 ++ (wsL_law_r23 ++ (wsL_law_r24 ++ (wsL_law_r25 ++ (wsL_law_r26 ++ (wsL_law_r27 ++ (wsL_law_r28 ++ (wsL_law_r29 ++ (wsL_law_r30 ++ (wsL_law_r31 ++ (wsL_law_r32 ++ (wsL_law_r33 ++ wsL_law_r34))))))))))))))))))))))))))))))))) ++ wsX30 ++ wsX40 ++ wsX10 ++ wsX20 ++ wsX00 ++ ([] : List Cond)
end
section
theorem dX0_init_0 : decode cX0_init 0 = .ok (.aload_n 0, 1) := by decide +kernel
theorem dX0_init_1 : decode cX0_init 1 = .ok (.invokespecial 3, 3) := by decide +kernel
theorem dX0_init_4 : decode cX0_init 4 = .ok (.aload_n 0, 1) := by decide +kernel
theorem dX0_init_5 : decode cX0_init 5 = .ok (.bipush 40, 2) := by decide +kernel
theorem dX0_init_7 : decode cX0_init 7 = .ok (.newarray .int, 2) := by decide +kernel
theorem dX0_init_9 : decode cX0_init 9 = .ok (.putfield 9, 3) := by decide +kernel
theorem dX0_init_12 : decode cX0_init 12 = .ok (.aload_n 0, 1) := by decide +kernel
theorem dX0_init_13 : decode cX0_init 13 = .ok (.bipush 120, 2) := by decide +kernel
theorem dX0_init_15 : decode cX0_init 15 = .ok (.newarray .int, 2) := by decide +kernel
theorem dX0_init_17 : decode cX0_init 17 = .ok (.putfield 15, 3) := by decide +kernel
theorem dX0_init_20 : decode cX0_init 20 = .ok (.aload_n 0, 1) := by decide +kernel
theorem dX0_init_21 : decode cX0_init 21 = .ok (.iconst 4, 1) := by decide +kernel
theorem dX0_init_22 : decode cX0_init 22 = .ok (.newarray .int, 2) := by decide +kernel
theorem dX0_init_24 : decode cX0_init 24 = .ok (.putfield 18, 3) := by decide +kernel
theorem dX0_init_27 : decode cX0_init 27 = .ok (.aload_n 0, 1) := by decide +kernel
theorem dX0_init_28 : decode cX0_init 28 = .ok (.bipush 40, 2) := by decide +kernel
theorem dX0_init_30 : decode cX0_init 30 = .ok (.newarray .int, 2) := by decide +kernel
theorem dX0_init_32 : decode cX0_init 32 = .ok (.putfield 21, 3) := by decide +kernel
theorem dX0_init_35 : decode cX0_init 35 = .ok (.aload_n 0, 1) := by decide +kernel
theorem dX0_init_36 : decode cX0_init 36 = .ok (.iconst 0, 1) := by decide +kernel
theorem dX0_init_37 : decode cX0_init 37 = .ok (.putfield 24, 3) := by decide +kernel
theorem dX0_init_40 : decode cX0_init 40 = .ok (.aload_n 0, 1) := by decide +kernel
theorem dX0_init_41 : decode cX0_init 41 = .ok (.iconst 0, 1) := by decide +kernel
theorem dX0_init_42 : decode cX0_init 42 = .ok (.putfield 28, 3) := by decide +kernel
theorem dX0_init_45 : decode cX0_init 45 = .ok (.return_, 1) := by decide +kernel
theorem dX0_gateCount_0 : decode cX0_gateCount 0 = .ok (.aload_n 0, 1) := by decide +kernel
theorem dX0_gateCount_1 : decode cX0_gateCount 1 = .ok (.getfield 24, 3) := by decide +kernel
theorem dX0_gateCount_4 : decode cX0_gateCount 4 = .ok (.ireturn, 1) := by decide +kernel
theorem dX0_outputCount_0 : decode cX0_outputCount 0 = .ok (.aload_n 0, 1) := by decide +kernel
theorem dX0_outputCount_1 : decode cX0_outputCount 1 = .ok (.getfield 28, 3) := by decide +kernel
theorem dX0_outputCount_4 : decode cX0_outputCount 4 = .ok (.ireturn, 1) := by decide +kernel
theorem dX0_hasGate_0 : decode cX0_hasGate 0 = .ok (.iload_n 1, 1) := by decide +kernel
theorem dX0_hasGate_1 : decode cX0_hasGate 1 = .ok (.ifCond .lt 15, 3) := by decide +kernel
theorem dX0_hasGate_4 : decode cX0_hasGate 4 = .ok (.iload_n 1, 1) := by decide +kernel
theorem dX0_hasGate_5 : decode cX0_hasGate 5 = .ok (.aload_n 0, 1) := by decide +kernel
theorem dX0_hasGate_6 : decode cX0_hasGate 6 = .ok (.getfield 24, 3) := by decide +kernel
theorem dX0_hasGate_9 : decode cX0_hasGate 9 = .ok (.if_icmp .ge 7, 3) := by decide +kernel
theorem dX0_hasGate_12 : decode cX0_hasGate 12 = .ok (.iconst 1, 1) := by decide +kernel
theorem dX0_hasGate_13 : decode cX0_hasGate 13 = .ok (.goto 4, 3) := by decide +kernel
theorem dX0_hasGate_16 : decode cX0_hasGate 16 = .ok (.iconst 0, 1) := by decide +kernel
theorem dX0_hasGate_17 : decode cX0_hasGate 17 = .ok (.ireturn, 1) := by decide +kernel
theorem dX0_hasOutput_0 : decode cX0_hasOutput 0 = .ok (.iload_n 1, 1) := by decide +kernel
theorem dX0_hasOutput_1 : decode cX0_hasOutput 1 = .ok (.ifCond .lt 15, 3) := by decide +kernel
theorem dX0_hasOutput_4 : decode cX0_hasOutput 4 = .ok (.iload_n 1, 1) := by decide +kernel
theorem dX0_hasOutput_5 : decode cX0_hasOutput 5 = .ok (.aload_n 0, 1) := by decide +kernel
theorem dX0_hasOutput_6 : decode cX0_hasOutput 6 = .ok (.getfield 28, 3) := by decide +kernel
theorem dX0_hasOutput_9 : decode cX0_hasOutput 9 = .ok (.if_icmp .ge 7, 3) := by decide +kernel
theorem dX0_hasOutput_12 : decode cX0_hasOutput 12 = .ok (.iconst 1, 1) := by decide +kernel
theorem dX0_hasOutput_13 : decode cX0_hasOutput 13 = .ok (.goto 4, 3) := by decide +kernel
theorem dX0_hasOutput_16 : decode cX0_hasOutput 16 = .ok (.iconst 0, 1) := by decide +kernel
theorem dX0_hasOutput_17 : decode cX0_hasOutput 17 = .ok (.ireturn, 1) := by decide +kernel
theorem dX0_hasOperands_0 : decode cX0_hasOperands 0 = .ok (.getstatic 31, 3) := by decide +kernel
theorem dX0_hasOperands_3 : decode cX0_hasOperands 3 = .ok (.iload_n 1, 1) := by decide +kernel
theorem dX0_hasOperands_4 : decode cX0_hasOperands 4 = .ok (.iaload, 1) := by decide +kernel
theorem dX0_hasOperands_5 : decode cX0_hasOperands 5 = .ok (.istore 5, 2) := by decide +kernel
theorem dX0_hasOperands_7 : decode cX0_hasOperands 7 = .ok (.iload 5, 2) := by decide +kernel
theorem dX0_hasOperands_9 : decode cX0_hasOperands 9 = .ok (.iconst 1, 1) := by decide +kernel
theorem dX0_hasOperands_10 : decode cX0_hasOperands 10 = .ok (.if_icmp .lt 11, 3) := by decide +kernel
theorem dX0_hasOperands_13 : decode cX0_hasOperands 13 = .ok (.aload_n 0, 1) := by decide +kernel
theorem dX0_hasOperands_14 : decode cX0_hasOperands 14 = .ok (.iload_n 2, 1) := by decide +kernel
theorem dX0_hasOperands_15 : decode cX0_hasOperands 15 = .ok (.invokevirtual 34, 3) := by decide +kernel
theorem dX0_hasOperands_18 : decode cX0_hasOperands 18 = .ok (.ifCond .eq 36, 3) := by decide +kernel
theorem dX0_hasOperands_21 : decode cX0_hasOperands 21 = .ok (.iload 5, 2) := by decide +kernel
theorem dX0_hasOperands_23 : decode cX0_hasOperands 23 = .ok (.iconst 2, 1) := by decide +kernel
theorem dX0_hasOperands_24 : decode cX0_hasOperands 24 = .ok (.if_icmp .lt 11, 3) := by decide +kernel
theorem dX0_hasOperands_27 : decode cX0_hasOperands 27 = .ok (.aload_n 0, 1) := by decide +kernel
theorem dX0_hasOperands_28 : decode cX0_hasOperands 28 = .ok (.iload_n 3, 1) := by decide +kernel
theorem dX0_hasOperands_29 : decode cX0_hasOperands 29 = .ok (.invokevirtual 34, 3) := by decide +kernel
theorem dX0_hasOperands_32 : decode cX0_hasOperands 32 = .ok (.ifCond .eq 22, 3) := by decide +kernel
theorem dX0_hasOperands_35 : decode cX0_hasOperands 35 = .ok (.iload 5, 2) := by decide +kernel
theorem dX0_hasOperands_37 : decode cX0_hasOperands 37 = .ok (.iconst 3, 1) := by decide +kernel
theorem dX0_hasOperands_38 : decode cX0_hasOperands 38 = .ok (.if_icmp .lt 12, 3) := by decide +kernel
theorem dX0_hasOperands_41 : decode cX0_hasOperands 41 = .ok (.aload_n 0, 1) := by decide +kernel
theorem dX0_hasOperands_42 : decode cX0_hasOperands 42 = .ok (.iload 4, 2) := by decide +kernel
theorem dX0_hasOperands_44 : decode cX0_hasOperands 44 = .ok (.invokevirtual 34, 3) := by decide +kernel
theorem dX0_hasOperands_47 : decode cX0_hasOperands 47 = .ok (.ifCond .eq 7, 3) := by decide +kernel
theorem dX0_hasOperands_50 : decode cX0_hasOperands 50 = .ok (.iconst 1, 1) := by decide +kernel
theorem dX0_hasOperands_51 : decode cX0_hasOperands 51 = .ok (.goto 4, 3) := by decide +kernel
theorem dX0_hasOperands_54 : decode cX0_hasOperands 54 = .ok (.iconst 0, 1) := by decide +kernel
theorem dX0_hasOperands_55 : decode cX0_hasOperands 55 = .ok (.ireturn, 1) := by decide +kernel
theorem dX0_addGate_0 : decode cX0_addGate 0 = .ok (.aload_n 0, 1) := by decide +kernel
theorem dX0_addGate_1 : decode cX0_addGate 1 = .ok (.getfield 24, 3) := by decide +kernel
theorem dX0_addGate_4 : decode cX0_addGate 4 = .ok (.bipush 40, 2) := by decide +kernel
theorem dX0_addGate_6 : decode cX0_addGate 6 = .ok (.if_icmp .lt 6, 3) := by decide +kernel
theorem dX0_addGate_9 : decode cX0_addGate 9 = .ok (.bipush (-4), 2) := by decide +kernel
theorem dX0_addGate_11 : decode cX0_addGate 11 = .ok (.ireturn, 1) := by decide +kernel
theorem dX0_addGate_12 : decode cX0_addGate 12 = .ok (.aload_n 0, 1) := by decide +kernel
theorem dX0_addGate_13 : decode cX0_addGate 13 = .ok (.getfield 9, 3) := by decide +kernel
theorem dX0_addGate_16 : decode cX0_addGate 16 = .ok (.aload_n 0, 1) := by decide +kernel
theorem dX0_addGate_17 : decode cX0_addGate 17 = .ok (.getfield 24, 3) := by decide +kernel
theorem dX0_addGate_20 : decode cX0_addGate 20 = .ok (.iload_n 1, 1) := by decide +kernel
theorem dX0_addGate_21 : decode cX0_addGate 21 = .ok (.iastore, 1) := by decide +kernel
theorem dX0_addGate_22 : decode cX0_addGate 22 = .ok (.aload_n 0, 1) := by decide +kernel
theorem dX0_addGate_23 : decode cX0_addGate 23 = .ok (.getfield 15, 3) := by decide +kernel
theorem dX0_addGate_26 : decode cX0_addGate 26 = .ok (.iconst 3, 1) := by decide +kernel
theorem dX0_addGate_27 : decode cX0_addGate 27 = .ok (.aload_n 0, 1) := by decide +kernel
theorem dX0_addGate_28 : decode cX0_addGate 28 = .ok (.getfield 24, 3) := by decide +kernel
theorem dX0_addGate_31 : decode cX0_addGate 31 = .ok (.imul, 1) := by decide +kernel
theorem dX0_addGate_32 : decode cX0_addGate 32 = .ok (.iload_n 2, 1) := by decide +kernel
theorem dX0_addGate_33 : decode cX0_addGate 33 = .ok (.iastore, 1) := by decide +kernel
theorem dX0_addGate_34 : decode cX0_addGate 34 = .ok (.aload_n 0, 1) := by decide +kernel
theorem dX0_addGate_35 : decode cX0_addGate 35 = .ok (.getfield 15, 3) := by decide +kernel
theorem dX0_addGate_38 : decode cX0_addGate 38 = .ok (.iconst 3, 1) := by decide +kernel
theorem dX0_addGate_39 : decode cX0_addGate 39 = .ok (.aload_n 0, 1) := by decide +kernel
theorem dX0_addGate_40 : decode cX0_addGate 40 = .ok (.getfield 24, 3) := by decide +kernel
theorem dX0_addGate_43 : decode cX0_addGate 43 = .ok (.imul, 1) := by decide +kernel
theorem dX0_addGate_44 : decode cX0_addGate 44 = .ok (.iconst 1, 1) := by decide +kernel
theorem dX0_addGate_45 : decode cX0_addGate 45 = .ok (.iadd, 1) := by decide +kernel
theorem dX0_addGate_46 : decode cX0_addGate 46 = .ok (.iload_n 3, 1) := by decide +kernel
theorem dX0_addGate_47 : decode cX0_addGate 47 = .ok (.iastore, 1) := by decide +kernel
theorem dX0_addGate_48 : decode cX0_addGate 48 = .ok (.aload_n 0, 1) := by decide +kernel
theorem dX0_addGate_49 : decode cX0_addGate 49 = .ok (.getfield 15, 3) := by decide +kernel
theorem dX0_addGate_52 : decode cX0_addGate 52 = .ok (.iconst 3, 1) := by decide +kernel
theorem dX0_addGate_53 : decode cX0_addGate 53 = .ok (.aload_n 0, 1) := by decide +kernel
theorem dX0_addGate_54 : decode cX0_addGate 54 = .ok (.getfield 24, 3) := by decide +kernel
theorem dX0_addGate_57 : decode cX0_addGate 57 = .ok (.imul, 1) := by decide +kernel
theorem dX0_addGate_58 : decode cX0_addGate 58 = .ok (.iconst 2, 1) := by decide +kernel
theorem dX0_addGate_59 : decode cX0_addGate 59 = .ok (.iadd, 1) := by decide +kernel
theorem dX0_addGate_60 : decode cX0_addGate 60 = .ok (.iload 4, 2) := by decide +kernel
theorem dX0_addGate_62 : decode cX0_addGate 62 = .ok (.iastore, 1) := by decide +kernel
theorem dX0_addGate_63 : decode cX0_addGate 63 = .ok (.aload_n 0, 1) := by decide +kernel
theorem dX0_addGate_64 : decode cX0_addGate 64 = .ok (.dup, 1) := by decide +kernel
theorem dX0_addGate_65 : decode cX0_addGate 65 = .ok (.getfield 24, 3) := by decide +kernel
theorem dX0_addGate_68 : decode cX0_addGate 68 = .ok (.iconst 1, 1) := by decide +kernel
theorem dX0_addGate_69 : decode cX0_addGate 69 = .ok (.iadd, 1) := by decide +kernel
theorem dX0_addGate_70 : decode cX0_addGate 70 = .ok (.putfield 24, 3) := by decide +kernel
theorem dX0_addGate_73 : decode cX0_addGate 73 = .ok (.aload_n 0, 1) := by decide +kernel
theorem dX0_addGate_74 : decode cX0_addGate 74 = .ok (.getfield 24, 3) := by decide +kernel
theorem dX0_addGate_77 : decode cX0_addGate 77 = .ok (.iconst 1, 1) := by decide +kernel
theorem dX0_addGate_78 : decode cX0_addGate 78 = .ok (.isub, 1) := by decide +kernel
theorem dX0_addGate_79 : decode cX0_addGate 79 = .ok (.ireturn, 1) := by decide +kernel
theorem dX0_addOutput_0 : decode cX0_addOutput 0 = .ok (.aload_n 0, 1) := by decide +kernel
theorem dX0_addOutput_1 : decode cX0_addOutput 1 = .ok (.getfield 28, 3) := by decide +kernel
theorem dX0_addOutput_4 : decode cX0_addOutput 4 = .ok (.iconst 4, 1) := by decide +kernel
theorem dX0_addOutput_5 : decode cX0_addOutput 5 = .ok (.if_icmp .lt 6, 3) := by decide +kernel
theorem dX0_addOutput_8 : decode cX0_addOutput 8 = .ok (.bipush (-4), 2) := by decide +kernel
theorem dX0_addOutput_10 : decode cX0_addOutput 10 = .ok (.ireturn, 1) := by decide +kernel
theorem dX0_addOutput_11 : decode cX0_addOutput 11 = .ok (.aload_n 0, 1) := by decide +kernel
theorem dX0_addOutput_12 : decode cX0_addOutput 12 = .ok (.getfield 18, 3) := by decide +kernel
theorem dX0_addOutput_15 : decode cX0_addOutput 15 = .ok (.aload_n 0, 1) := by decide +kernel
theorem dX0_addOutput_16 : decode cX0_addOutput 16 = .ok (.getfield 28, 3) := by decide +kernel
theorem dX0_addOutput_19 : decode cX0_addOutput 19 = .ok (.iload_n 1, 1) := by decide +kernel
theorem dX0_addOutput_20 : decode cX0_addOutput 20 = .ok (.iastore, 1) := by decide +kernel
theorem dX0_addOutput_21 : decode cX0_addOutput 21 = .ok (.aload_n 0, 1) := by decide +kernel
theorem dX0_addOutput_22 : decode cX0_addOutput 22 = .ok (.dup, 1) := by decide +kernel
theorem dX0_addOutput_23 : decode cX0_addOutput 23 = .ok (.getfield 28, 3) := by decide +kernel
theorem dX0_addOutput_26 : decode cX0_addOutput 26 = .ok (.iconst 1, 1) := by decide +kernel
theorem dX0_addOutput_27 : decode cX0_addOutput 27 = .ok (.iadd, 1) := by decide +kernel
theorem dX0_addOutput_28 : decode cX0_addOutput 28 = .ok (.putfield 28, 3) := by decide +kernel
theorem dX0_addOutput_31 : decode cX0_addOutput 31 = .ok (.aload_n 0, 1) := by decide +kernel
theorem dX0_addOutput_32 : decode cX0_addOutput 32 = .ok (.getfield 28, 3) := by decide +kernel
theorem dX0_addOutput_35 : decode cX0_addOutput 35 = .ok (.iconst 1, 1) := by decide +kernel
theorem dX0_addOutput_36 : decode cX0_addOutput 36 = .ok (.isub, 1) := by decide +kernel
theorem dX0_addOutput_37 : decode cX0_addOutput 37 = .ok (.ireturn, 1) := by decide +kernel
theorem dX0_empty_0 : decode cX0_empty 0 = .ok (.aload_n 0, 1) := by decide +kernel
theorem dX0_empty_1 : decode cX0_empty 1 = .ok (.getfield 24, 3) := by decide +kernel
theorem dX0_empty_4 : decode cX0_empty 4 = .ok (.istore_n 1, 1) := by decide +kernel
theorem dX0_empty_5 : decode cX0_empty 5 = .ok (.aload_n 0, 1) := by decide +kernel
theorem dX0_empty_6 : decode cX0_empty 6 = .ok (.iconst 0, 1) := by decide +kernel
theorem dX0_empty_7 : decode cX0_empty 7 = .ok (.putfield 24, 3) := by decide +kernel
theorem dX0_empty_10 : decode cX0_empty 10 = .ok (.aload_n 0, 1) := by decide +kernel
theorem dX0_empty_11 : decode cX0_empty 11 = .ok (.iconst 0, 1) := by decide +kernel
theorem dX0_empty_12 : decode cX0_empty 12 = .ok (.putfield 28, 3) := by decide +kernel
theorem dX0_empty_15 : decode cX0_empty 15 = .ok (.iload_n 1, 1) := by decide +kernel
theorem dX0_empty_16 : decode cX0_empty 16 = .ok (.ireturn, 1) := by decide +kernel
theorem dX0_kindOf_0 : decode cX0_kindOf 0 = .ok (.aload_n 0, 1) := by decide +kernel
theorem dX0_kindOf_1 : decode cX0_kindOf 1 = .ok (.getfield 9, 3) := by decide +kernel
theorem dX0_kindOf_4 : decode cX0_kindOf 4 = .ok (.iload_n 1, 1) := by decide +kernel
theorem dX0_kindOf_5 : decode cX0_kindOf 5 = .ok (.iaload, 1) := by decide +kernel
theorem dX0_kindOf_6 : decode cX0_kindOf 6 = .ok (.ireturn, 1) := by decide +kernel
theorem dX0_operand_0 : decode cX0_operand 0 = .ok (.aload_n 0, 1) := by decide +kernel
theorem dX0_operand_1 : decode cX0_operand 1 = .ok (.getfield 15, 3) := by decide +kernel
theorem dX0_operand_4 : decode cX0_operand 4 = .ok (.iconst 3, 1) := by decide +kernel
theorem dX0_operand_5 : decode cX0_operand 5 = .ok (.iload_n 1, 1) := by decide +kernel
theorem dX0_operand_6 : decode cX0_operand 6 = .ok (.imul, 1) := by decide +kernel
theorem dX0_operand_7 : decode cX0_operand 7 = .ok (.iload_n 2, 1) := by decide +kernel
theorem dX0_operand_8 : decode cX0_operand 8 = .ok (.iadd, 1) := by decide +kernel
theorem dX0_operand_9 : decode cX0_operand 9 = .ok (.iaload, 1) := by decide +kernel
theorem dX0_operand_10 : decode cX0_operand 10 = .ok (.ireturn, 1) := by decide +kernel
theorem dX0_outputValue_0 : decode cX0_outputValue 0 = .ok (.aload_n 0, 1) := by decide +kernel
theorem dX0_outputValue_1 : decode cX0_outputValue 1 = .ok (.getfield 18, 3) := by decide +kernel
theorem dX0_outputValue_4 : decode cX0_outputValue 4 = .ok (.iload_n 1, 1) := by decide +kernel
theorem dX0_outputValue_5 : decode cX0_outputValue 5 = .ok (.iaload, 1) := by decide +kernel
theorem dX0_outputValue_6 : decode cX0_outputValue 6 = .ok (.istore_n 3, 1) := by decide +kernel
theorem dX0_outputValue_7 : decode cX0_outputValue 7 = .ok (.iconst 0, 1) := by decide +kernel
theorem dX0_outputValue_8 : decode cX0_outputValue 8 = .ok (.istore 4, 2) := by decide +kernel
theorem dX0_outputValue_10 : decode cX0_outputValue 10 = .ok (.iload 4, 2) := by decide +kernel
theorem dX0_outputValue_12 : decode cX0_outputValue 12 = .ok (.iload_n 3, 1) := by decide +kernel
theorem dX0_outputValue_13 : decode cX0_outputValue 13 = .ok (.if_icmp .gt 23, 3) := by decide +kernel
theorem dX0_outputValue_16 : decode cX0_outputValue 16 = .ok (.aload_n 0, 1) := by decide +kernel
theorem dX0_outputValue_17 : decode cX0_outputValue 17 = .ok (.getfield 21, 3) := by decide +kernel
theorem dX0_outputValue_20 : decode cX0_outputValue 20 = .ok (.iload 4, 2) := by decide +kernel
theorem dX0_outputValue_22 : decode cX0_outputValue 22 = .ok (.aload_n 0, 1) := by decide +kernel
theorem dX0_outputValue_23 : decode cX0_outputValue 23 = .ok (.iload 4, 2) := by decide +kernel
theorem dX0_outputValue_25 : decode cX0_outputValue 25 = .ok (.iload_n 2, 1) := by decide +kernel
theorem dX0_outputValue_26 : decode cX0_outputValue 26 = .ok (.invokevirtual 38, 3) := by decide +kernel
theorem dX0_outputValue_29 : decode cX0_outputValue 29 = .ok (.iastore, 1) := by decide +kernel
theorem dX0_outputValue_30 : decode cX0_outputValue 30 = .ok (.iinc 4 1, 3) := by decide +kernel
theorem dX0_outputValue_33 : decode cX0_outputValue 33 = .ok (.goto (-23), 3) := by decide +kernel
theorem dX0_outputValue_36 : decode cX0_outputValue 36 = .ok (.aload_n 0, 1) := by decide +kernel
theorem dX0_outputValue_37 : decode cX0_outputValue 37 = .ok (.getfield 21, 3) := by decide +kernel
theorem dX0_outputValue_40 : decode cX0_outputValue 40 = .ok (.iload_n 3, 1) := by decide +kernel
theorem dX0_outputValue_41 : decode cX0_outputValue 41 = .ok (.iaload, 1) := by decide +kernel
theorem dX0_outputValue_42 : decode cX0_outputValue 42 = .ok (.ireturn, 1) := by decide +kernel
theorem dX0_gateValue_0 : decode cX0_gateValue 0 = .ok (.aload_n 0, 1) := by decide +kernel
theorem dX0_gateValue_1 : decode cX0_gateValue 1 = .ok (.getfield 9, 3) := by decide +kernel
theorem dX0_gateValue_4 : decode cX0_gateValue 4 = .ok (.iload_n 1, 1) := by decide +kernel
theorem dX0_gateValue_5 : decode cX0_gateValue 5 = .ok (.iaload, 1) := by decide +kernel
theorem dX0_gateValue_6 : decode cX0_gateValue 6 = .ok (.istore_n 3, 1) := by decide +kernel
theorem dX0_gateValue_7 : decode cX0_gateValue 7 = .ok (.iload_n 3, 1) := by decide +kernel
theorem dX0_gateValue_8 : decode cX0_gateValue 8 = .ok (.ifCond .ne 14, 3) := by decide +kernel
theorem dX0_gateValue_11 : decode cX0_gateValue 11 = .ok (.iload_n 2, 1) := by decide +kernel
theorem dX0_gateValue_12 : decode cX0_gateValue 12 = .ok (.aload_n 0, 1) := by decide +kernel
theorem dX0_gateValue_13 : decode cX0_gateValue 13 = .ok (.iload_n 1, 1) := by decide +kernel
theorem dX0_gateValue_14 : decode cX0_gateValue 14 = .ok (.iconst 0, 1) := by decide +kernel
theorem dX0_gateValue_15 : decode cX0_gateValue 15 = .ok (.invokevirtual 42, 3) := by decide +kernel
theorem dX0_gateValue_18 : decode cX0_gateValue 18 = .ok (.ishr, 1) := by decide +kernel
theorem dX0_gateValue_19 : decode cX0_gateValue 19 = .ok (.iconst 1, 1) := by decide +kernel
theorem dX0_gateValue_20 : decode cX0_gateValue 20 = .ok (.iand, 1) := by decide +kernel
theorem dX0_gateValue_21 : decode cX0_gateValue 21 = .ok (.ireturn, 1) := by decide +kernel
theorem dX0_gateValue_22 : decode cX0_gateValue 22 = .ok (.iconst 0, 1) := by decide +kernel
theorem dX0_gateValue_23 : decode cX0_gateValue 23 = .ok (.istore 4, 2) := by decide +kernel
theorem dX0_gateValue_25 : decode cX0_gateValue 25 = .ok (.iconst 0, 1) := by decide +kernel
theorem dX0_gateValue_26 : decode cX0_gateValue 26 = .ok (.istore 5, 2) := by decide +kernel
theorem dX0_gateValue_28 : decode cX0_gateValue 28 = .ok (.iload 5, 2) := by decide +kernel
theorem dX0_gateValue_30 : decode cX0_gateValue 30 = .ok (.getstatic 31, 3) := by decide +kernel
theorem dX0_gateValue_33 : decode cX0_gateValue 33 = .ok (.iload_n 3, 1) := by decide +kernel
theorem dX0_gateValue_34 : decode cX0_gateValue 34 = .ok (.iaload, 1) := by decide +kernel
theorem dX0_gateValue_35 : decode cX0_gateValue 35 = .ok (.if_icmp .ge 29, 3) := by decide +kernel
theorem dX0_gateValue_38 : decode cX0_gateValue 38 = .ok (.iload 4, 2) := by decide +kernel
theorem dX0_gateValue_40 : decode cX0_gateValue 40 = .ok (.aload_n 0, 1) := by decide +kernel
theorem dX0_gateValue_41 : decode cX0_gateValue 41 = .ok (.getfield 21, 3) := by decide +kernel
theorem dX0_gateValue_44 : decode cX0_gateValue 44 = .ok (.aload_n 0, 1) := by decide +kernel
theorem dX0_gateValue_45 : decode cX0_gateValue 45 = .ok (.iload_n 1, 1) := by decide +kernel
theorem dX0_gateValue_46 : decode cX0_gateValue 46 = .ok (.iload 5, 2) := by decide +kernel
theorem dX0_gateValue_48 : decode cX0_gateValue 48 = .ok (.invokevirtual 42, 3) := by decide +kernel
theorem dX0_gateValue_51 : decode cX0_gateValue 51 = .ok (.iaload, 1) := by decide +kernel
theorem dX0_gateValue_52 : decode cX0_gateValue 52 = .ok (.iload 5, 2) := by decide +kernel
theorem dX0_gateValue_54 : decode cX0_gateValue 54 = .ok (.ishl, 1) := by decide +kernel
theorem dX0_gateValue_55 : decode cX0_gateValue 55 = .ok (.ior, 1) := by decide +kernel
theorem dX0_gateValue_56 : decode cX0_gateValue 56 = .ok (.istore 4, 2) := by decide +kernel
theorem dX0_gateValue_58 : decode cX0_gateValue 58 = .ok (.iinc 5 1, 3) := by decide +kernel
theorem dX0_gateValue_61 : decode cX0_gateValue 61 = .ok (.goto (-33), 3) := by decide +kernel
theorem dX0_gateValue_64 : decode cX0_gateValue 64 = .ok (.getstatic 45, 3) := by decide +kernel
theorem dX0_gateValue_67 : decode cX0_gateValue 67 = .ok (.iload_n 3, 1) := by decide +kernel
theorem dX0_gateValue_68 : decode cX0_gateValue 68 = .ok (.iaload, 1) := by decide +kernel
theorem dX0_gateValue_69 : decode cX0_gateValue 69 = .ok (.iload 4, 2) := by decide +kernel
theorem dX0_gateValue_71 : decode cX0_gateValue 71 = .ok (.ishr, 1) := by decide +kernel
theorem dX0_gateValue_72 : decode cX0_gateValue 72 = .ok (.iconst 1, 1) := by decide +kernel
theorem dX0_gateValue_73 : decode cX0_gateValue 73 = .ok (.iand, 1) := by decide +kernel
theorem dX0_gateValue_74 : decode cX0_gateValue 74 = .ok (.ireturn, 1) := by decide +kernel
theorem dX0_findNeeds_0 : decode cX0_findNeeds 0 = .ok (.aload_n 2, 1) := by decide +kernel
theorem dX0_findNeeds_1 : decode cX0_findNeeds 1 = .ok (.iconst (-1), 1) := by decide +kernel
theorem dX0_findNeeds_2 : decode cX0_findNeeds 2 = .ok (.invokestatic 48, 3) := by decide +kernel
theorem dX0_findNeeds_5 : decode cX0_findNeeds 5 = .ok (.aload_n 0, 1) := by decide +kernel
theorem dX0_findNeeds_6 : decode cX0_findNeeds 6 = .ok (.getfield 18, 3) := by decide +kernel
theorem dX0_findNeeds_9 : decode cX0_findNeeds 9 = .ok (.iload_n 1, 1) := by decide +kernel
theorem dX0_findNeeds_10 : decode cX0_findNeeds 10 = .ok (.iaload, 1) := by decide +kernel
theorem dX0_findNeeds_11 : decode cX0_findNeeds 11 = .ok (.istore_n 3, 1) := by decide +kernel
theorem dX0_findNeeds_12 : decode cX0_findNeeds 12 = .ok (.aload_n 2, 1) := by decide +kernel
theorem dX0_findNeeds_13 : decode cX0_findNeeds 13 = .ok (.iload_n 3, 1) := by decide +kernel
theorem dX0_findNeeds_14 : decode cX0_findNeeds 14 = .ok (.iload_n 3, 1) := by decide +kernel
theorem dX0_findNeeds_15 : decode cX0_findNeeds 15 = .ok (.iastore, 1) := by decide +kernel
theorem dX0_findNeeds_16 : decode cX0_findNeeds 16 = .ok (.iload_n 3, 1) := by decide +kernel
theorem dX0_findNeeds_17 : decode cX0_findNeeds 17 = .ok (.istore 4, 2) := by decide +kernel
theorem dX0_findNeeds_19 : decode cX0_findNeeds 19 = .ok (.iload 4, 2) := by decide +kernel
theorem dX0_findNeeds_21 : decode cX0_findNeeds 21 = .ok (.ifCond .lt 24, 3) := by decide +kernel
theorem dX0_findNeeds_24 : decode cX0_findNeeds 24 = .ok (.aload_n 2, 1) := by decide +kernel
theorem dX0_findNeeds_25 : decode cX0_findNeeds 25 = .ok (.iload 4, 2) := by decide +kernel
theorem dX0_findNeeds_27 : decode cX0_findNeeds 27 = .ok (.iaload, 1) := by decide +kernel
theorem dX0_findNeeds_28 : decode cX0_findNeeds 28 = .ok (.iconst (-1), 1) := by decide +kernel
theorem dX0_findNeeds_29 : decode cX0_findNeeds 29 = .ok (.if_icmp .eq 10, 3) := by decide +kernel
theorem dX0_findNeeds_32 : decode cX0_findNeeds 32 = .ok (.aload_n 0, 1) := by decide +kernel
theorem dX0_findNeeds_33 : decode cX0_findNeeds 33 = .ok (.iload 4, 2) := by decide +kernel
theorem dX0_findNeeds_35 : decode cX0_findNeeds 35 = .ok (.aload_n 2, 1) := by decide +kernel
theorem dX0_findNeeds_36 : decode cX0_findNeeds 36 = .ok (.invokevirtual 54, 3) := by decide +kernel
theorem dX0_findNeeds_39 : decode cX0_findNeeds 39 = .ok (.iinc 4 (-1), 3) := by decide +kernel
theorem dX0_findNeeds_42 : decode cX0_findNeeds 42 = .ok (.goto (-23), 3) := by decide +kernel
theorem dX0_findNeeds_45 : decode cX0_findNeeds 45 = .ok (.iload_n 3, 1) := by decide +kernel
theorem dX0_findNeeds_46 : decode cX0_findNeeds 46 = .ok (.ireturn, 1) := by decide +kernel
theorem dX0_noteNeedsOf_0 : decode cX0_noteNeedsOf 0 = .ok (.iconst 0, 1) := by decide +kernel
theorem dX0_noteNeedsOf_1 : decode cX0_noteNeedsOf 1 = .ok (.istore_n 3, 1) := by decide +kernel
theorem dX0_noteNeedsOf_2 : decode cX0_noteNeedsOf 2 = .ok (.iload_n 3, 1) := by decide +kernel
theorem dX0_noteNeedsOf_3 : decode cX0_noteNeedsOf 3 = .ok (.getstatic 31, 3) := by decide +kernel
theorem dX0_noteNeedsOf_6 : decode cX0_noteNeedsOf 6 = .ok (.aload_n 0, 1) := by decide +kernel
theorem dX0_noteNeedsOf_7 : decode cX0_noteNeedsOf 7 = .ok (.getfield 9, 3) := by decide +kernel
theorem dX0_noteNeedsOf_10 : decode cX0_noteNeedsOf 10 = .ok (.iload_n 1, 1) := by decide +kernel
theorem dX0_noteNeedsOf_11 : decode cX0_noteNeedsOf 11 = .ok (.iaload, 1) := by decide +kernel
theorem dX0_noteNeedsOf_12 : decode cX0_noteNeedsOf 12 = .ok (.iaload, 1) := by decide +kernel
theorem dX0_noteNeedsOf_13 : decode cX0_noteNeedsOf 13 = .ok (.if_icmp .ge 30, 3) := by decide +kernel
theorem dX0_noteNeedsOf_16 : decode cX0_noteNeedsOf 16 = .ok (.aload_n 0, 1) := by decide +kernel
theorem dX0_noteNeedsOf_17 : decode cX0_noteNeedsOf 17 = .ok (.iload_n 1, 1) := by decide +kernel
theorem dX0_noteNeedsOf_18 : decode cX0_noteNeedsOf 18 = .ok (.iload_n 3, 1) := by decide +kernel
theorem dX0_noteNeedsOf_19 : decode cX0_noteNeedsOf 19 = .ok (.invokevirtual 42, 3) := by decide +kernel
theorem dX0_noteNeedsOf_22 : decode cX0_noteNeedsOf 22 = .ok (.istore 4, 2) := by decide +kernel
theorem dX0_noteNeedsOf_24 : decode cX0_noteNeedsOf 24 = .ok (.aload_n 2, 1) := by decide +kernel
theorem dX0_noteNeedsOf_25 : decode cX0_noteNeedsOf 25 = .ok (.iload 4, 2) := by decide +kernel
theorem dX0_noteNeedsOf_27 : decode cX0_noteNeedsOf 27 = .ok (.iaload, 1) := by decide +kernel
theorem dX0_noteNeedsOf_28 : decode cX0_noteNeedsOf 28 = .ok (.iconst (-1), 1) := by decide +kernel
theorem dX0_noteNeedsOf_29 : decode cX0_noteNeedsOf 29 = .ok (.if_icmp .ne 8, 3) := by decide +kernel
theorem dX0_noteNeedsOf_32 : decode cX0_noteNeedsOf 32 = .ok (.aload_n 2, 1) := by decide +kernel
theorem dX0_noteNeedsOf_33 : decode cX0_noteNeedsOf 33 = .ok (.iload 4, 2) := by decide +kernel
theorem dX0_noteNeedsOf_35 : decode cX0_noteNeedsOf 35 = .ok (.iload_n 1, 1) := by decide +kernel
theorem dX0_noteNeedsOf_36 : decode cX0_noteNeedsOf 36 = .ok (.iastore, 1) := by decide +kernel
theorem dX0_noteNeedsOf_37 : decode cX0_noteNeedsOf 37 = .ok (.iinc 3 1, 3) := by decide +kernel
theorem dX0_noteNeedsOf_40 : decode cX0_noteNeedsOf 40 = .ok (.goto (-38), 3) := by decide +kernel
theorem dX0_noteNeedsOf_43 : decode cX0_noteNeedsOf 43 = .ok (.return_, 1) := by decide +kernel
theorem dX0_meetVariables_0 : decode cX0_meetVariables 0 = .ok (.aload_n 0, 1) := by decide +kernel
theorem dX0_meetVariables_1 : decode cX0_meetVariables 1 = .ok (.getfield 21, 3) := by decide +kernel
theorem dX0_meetVariables_4 : decode cX0_meetVariables 4 = .ok (.iconst 0, 1) := by decide +kernel
theorem dX0_meetVariables_5 : decode cX0_meetVariables 5 = .ok (.invokestatic 48, 3) := by decide +kernel
theorem dX0_meetVariables_8 : decode cX0_meetVariables 8 = .ok (.iconst 0, 1) := by decide +kernel
theorem dX0_meetVariables_9 : decode cX0_meetVariables 9 = .ok (.istore_n 2, 1) := by decide +kernel
theorem dX0_meetVariables_10 : decode cX0_meetVariables 10 = .ok (.iload_n 2, 1) := by decide +kernel
theorem dX0_meetVariables_11 : decode cX0_meetVariables 11 = .ok (.aload_n 0, 1) := by decide +kernel
theorem dX0_meetVariables_12 : decode cX0_meetVariables 12 = .ok (.getfield 28, 3) := by decide +kernel
theorem dX0_meetVariables_15 : decode cX0_meetVariables 15 = .ok (.if_icmp .ge 21, 3) := by decide +kernel
theorem dX0_meetVariables_18 : decode cX0_meetVariables 18 = .ok (.aload_n 0, 1) := by decide +kernel
theorem dX0_meetVariables_19 : decode cX0_meetVariables 19 = .ok (.aload_n 0, 1) := by decide +kernel
theorem dX0_meetVariables_20 : decode cX0_meetVariables 20 = .ok (.getfield 18, 3) := by decide +kernel
theorem dX0_meetVariables_23 : decode cX0_meetVariables 23 = .ok (.iload_n 2, 1) := by decide +kernel
theorem dX0_meetVariables_24 : decode cX0_meetVariables 24 = .ok (.iaload, 1) := by decide +kernel
theorem dX0_meetVariables_25 : decode cX0_meetVariables 25 = .ok (.aload_n 1, 1) := by decide +kernel
theorem dX0_meetVariables_26 : decode cX0_meetVariables 26 = .ok (.iconst 0, 1) := by decide +kernel
theorem dX0_meetVariables_27 : decode cX0_meetVariables 27 = .ok (.invokevirtual 58, 3) := by decide +kernel
theorem dX0_meetVariables_30 : decode cX0_meetVariables 30 = .ok (.iinc 2 1, 3) := by decide +kernel
theorem dX0_meetVariables_33 : decode cX0_meetVariables 33 = .ok (.goto (-23), 3) := by decide +kernel
theorem dX0_meetVariables_36 : decode cX0_meetVariables 36 = .ok (.return_, 1) := by decide +kernel
theorem dX0_goInto_0 : decode cX0_goInto 0 = .ok (.iload_n 3, 1) := by decide +kernel
theorem dX0_goInto_1 : decode cX0_goInto 1 = .ok (.bipush 40, 2) := by decide +kernel
theorem dX0_goInto_3 : decode cX0_goInto 3 = .ok (.if_icmp .ge 12, 3) := by decide +kernel
theorem dX0_goInto_6 : decode cX0_goInto 6 = .ok (.aload_n 0, 1) := by decide +kernel
theorem dX0_goInto_7 : decode cX0_goInto 7 = .ok (.getfield 21, 3) := by decide +kernel
theorem dX0_goInto_10 : decode cX0_goInto 10 = .ok (.iload_n 1, 1) := by decide +kernel
theorem dX0_goInto_11 : decode cX0_goInto 11 = .ok (.iaload, 1) := by decide +kernel
theorem dX0_goInto_12 : decode cX0_goInto 12 = .ok (.ifCond .eq 4, 3) := by decide +kernel
theorem dX0_goInto_15 : decode cX0_goInto 15 = .ok (.return_, 1) := by decide +kernel
theorem dX0_goInto_16 : decode cX0_goInto 16 = .ok (.aload_n 0, 1) := by decide +kernel
theorem dX0_goInto_17 : decode cX0_goInto 17 = .ok (.getfield 21, 3) := by decide +kernel
theorem dX0_goInto_20 : decode cX0_goInto 20 = .ok (.iload_n 1, 1) := by decide +kernel
theorem dX0_goInto_21 : decode cX0_goInto 21 = .ok (.iconst 1, 1) := by decide +kernel
theorem dX0_goInto_22 : decode cX0_goInto 22 = .ok (.iastore, 1) := by decide +kernel
theorem dX0_goInto_23 : decode cX0_goInto 23 = .ok (.aload_n 0, 1) := by decide +kernel
theorem dX0_goInto_24 : decode cX0_goInto 24 = .ok (.getfield 9, 3) := by decide +kernel
theorem dX0_goInto_27 : decode cX0_goInto 27 = .ok (.iload_n 1, 1) := by decide +kernel
theorem dX0_goInto_28 : decode cX0_goInto 28 = .ok (.iaload, 1) := by decide +kernel
theorem dX0_goInto_29 : decode cX0_goInto 29 = .ok (.ifCond .ne 13, 3) := by decide +kernel
theorem dX0_goInto_32 : decode cX0_goInto 32 = .ok (.aload_n 2, 1) := by decide +kernel
theorem dX0_goInto_33 : decode cX0_goInto 33 = .ok (.aload_n 0, 1) := by decide +kernel
theorem dX0_goInto_34 : decode cX0_goInto 34 = .ok (.iload_n 1, 1) := by decide +kernel
theorem dX0_goInto_35 : decode cX0_goInto 35 = .ok (.iconst 0, 1) := by decide +kernel
theorem dX0_goInto_36 : decode cX0_goInto 36 = .ok (.invokevirtual 42, 3) := by decide +kernel
theorem dX0_goInto_39 : decode cX0_goInto 39 = .ok (.invokevirtual 62, 3) := by decide +kernel
theorem dX0_goInto_42 : decode cX0_goInto 42 = .ok (.iconst 0, 1) := by decide +kernel
theorem dX0_goInto_43 : decode cX0_goInto 43 = .ok (.istore 4, 2) := by decide +kernel
theorem dX0_goInto_45 : decode cX0_goInto 45 = .ok (.iload 4, 2) := by decide +kernel
theorem dX0_goInto_47 : decode cX0_goInto 47 = .ok (.getstatic 31, 3) := by decide +kernel
theorem dX0_goInto_50 : decode cX0_goInto 50 = .ok (.aload_n 0, 1) := by decide +kernel
theorem dX0_goInto_51 : decode cX0_goInto 51 = .ok (.getfield 9, 3) := by decide +kernel
theorem dX0_goInto_54 : decode cX0_goInto 54 = .ok (.iload_n 1, 1) := by decide +kernel
theorem dX0_goInto_55 : decode cX0_goInto 55 = .ok (.iaload, 1) := by decide +kernel
theorem dX0_goInto_56 : decode cX0_goInto 56 = .ok (.iaload, 1) := by decide +kernel
theorem dX0_goInto_57 : decode cX0_goInto 57 = .ok (.if_icmp .ge 24, 3) := by decide +kernel
theorem dX0_goInto_60 : decode cX0_goInto 60 = .ok (.aload_n 0, 1) := by decide +kernel
theorem dX0_goInto_61 : decode cX0_goInto 61 = .ok (.aload_n 0, 1) := by decide +kernel
theorem dX0_goInto_62 : decode cX0_goInto 62 = .ok (.iload_n 1, 1) := by decide +kernel
theorem dX0_goInto_63 : decode cX0_goInto 63 = .ok (.iload 4, 2) := by decide +kernel
theorem dX0_goInto_65 : decode cX0_goInto 65 = .ok (.invokevirtual 42, 3) := by decide +kernel
theorem dX0_goInto_68 : decode cX0_goInto 68 = .ok (.aload_n 2, 1) := by decide +kernel
theorem dX0_goInto_69 : decode cX0_goInto 69 = .ok (.iload_n 3, 1) := by decide +kernel
theorem dX0_goInto_70 : decode cX0_goInto 70 = .ok (.iconst 1, 1) := by decide +kernel
theorem dX0_goInto_71 : decode cX0_goInto 71 = .ok (.iadd, 1) := by decide +kernel
theorem dX0_goInto_72 : decode cX0_goInto 72 = .ok (.invokevirtual 58, 3) := by decide +kernel
theorem dX0_goInto_75 : decode cX0_goInto 75 = .ok (.iinc 4 1, 3) := by decide +kernel
theorem dX0_goInto_78 : decode cX0_goInto 78 = .ok (.goto (-33), 3) := by decide +kernel
theorem dX0_goInto_81 : decode cX0_goInto 81 = .ok (.return_, 1) := by decide +kernel
theorem dX1_init_0 : decode cX1_init 0 = .ok (.aload_n 0, 1) := by decide +kernel
theorem dX1_init_1 : decode cX1_init 1 = .ok (.invokespecial 3, 3) := by decide +kernel
theorem dX1_init_4 : decode cX1_init 4 = .ok (.aload_n 0, 1) := by decide +kernel
theorem dX1_init_5 : decode cX1_init 5 = .ok (.bipush 8, 2) := by decide +kernel
theorem dX1_init_7 : decode cX1_init 7 = .ok (.newarray .int, 2) := by decide +kernel
theorem dX1_init_9 : decode cX1_init 9 = .ok (.putfield 9, 3) := by decide +kernel
theorem dX1_init_12 : decode cX1_init 12 = .ok (.aload_n 0, 1) := by decide +kernel
theorem dX1_init_13 : decode cX1_init 13 = .ok (.bipush 8, 2) := by decide +kernel
theorem dX1_init_15 : decode cX1_init 15 = .ok (.newarray .int, 2) := by decide +kernel
theorem dX1_init_17 : decode cX1_init 17 = .ok (.putfield 15, 3) := by decide +kernel
theorem dX1_init_20 : decode cX1_init 20 = .ok (.aload_n 0, 1) := by decide +kernel
theorem dX1_init_21 : decode cX1_init 21 = .ok (.iconst 0, 1) := by decide +kernel
theorem dX1_init_22 : decode cX1_init 22 = .ok (.putfield 18, 3) := by decide +kernel
theorem dX1_init_25 : decode cX1_init 25 = .ok (.iconst 0, 1) := by decide +kernel
theorem dX1_init_26 : decode cX1_init 26 = .ok (.istore_n 1, 1) := by decide +kernel
theorem dX1_init_27 : decode cX1_init 27 = .ok (.iload_n 1, 1) := by decide +kernel
theorem dX1_init_28 : decode cX1_init 28 = .ok (.bipush 8, 2) := by decide +kernel
theorem dX1_init_30 : decode cX1_init 30 = .ok (.if_icmp .ge 23, 3) := by decide +kernel
theorem dX1_init_33 : decode cX1_init 33 = .ok (.aload_n 0, 1) := by decide +kernel
theorem dX1_init_34 : decode cX1_init 34 = .ok (.getfield 9, 3) := by decide +kernel
theorem dX1_init_37 : decode cX1_init 37 = .ok (.iload_n 1, 1) := by decide +kernel
theorem dX1_init_38 : decode cX1_init 38 = .ok (.iload_n 1, 1) := by decide +kernel
theorem dX1_init_39 : decode cX1_init 39 = .ok (.iastore, 1) := by decide +kernel
theorem dX1_init_40 : decode cX1_init 40 = .ok (.aload_n 0, 1) := by decide +kernel
theorem dX1_init_41 : decode cX1_init 41 = .ok (.getfield 15, 3) := by decide +kernel
theorem dX1_init_44 : decode cX1_init 44 = .ok (.iload_n 1, 1) := by decide +kernel
theorem dX1_init_45 : decode cX1_init 45 = .ok (.iload_n 1, 1) := by decide +kernel
theorem dX1_init_46 : decode cX1_init 46 = .ok (.iastore, 1) := by decide +kernel
theorem dX1_init_47 : decode cX1_init 47 = .ok (.iinc 1 1, 3) := by decide +kernel
theorem dX1_init_50 : decode cX1_init 50 = .ok (.goto (-23), 3) := by decide +kernel
theorem dX1_init_53 : decode cX1_init 53 = .ok (.return_, 1) := by decide +kernel
theorem dX1_variableAt_0 : decode cX1_variableAt 0 = .ok (.aload_n 0, 1) := by decide +kernel
theorem dX1_variableAt_1 : decode cX1_variableAt 1 = .ok (.getfield 9, 3) := by decide +kernel
theorem dX1_variableAt_4 : decode cX1_variableAt 4 = .ok (.iload_n 1, 1) := by decide +kernel
theorem dX1_variableAt_5 : decode cX1_variableAt 5 = .ok (.iaload, 1) := by decide +kernel
theorem dX1_variableAt_6 : decode cX1_variableAt 6 = .ok (.ireturn, 1) := by decide +kernel
theorem dX1_placeOf_0 : decode cX1_placeOf 0 = .ok (.aload_n 0, 1) := by decide +kernel
theorem dX1_placeOf_1 : decode cX1_placeOf 1 = .ok (.getfield 15, 3) := by decide +kernel
theorem dX1_placeOf_4 : decode cX1_placeOf 4 = .ok (.iload_n 1, 1) := by decide +kernel
theorem dX1_placeOf_5 : decode cX1_placeOf 5 = .ok (.iaload, 1) := by decide +kernel
theorem dX1_placeOf_6 : decode cX1_placeOf 6 = .ok (.ireturn, 1) := by decide +kernel
theorem dX1_forget_0 : decode cX1_forget 0 = .ok (.aload_n 0, 1) := by decide +kernel
theorem dX1_forget_1 : decode cX1_forget 1 = .ok (.getfield 15, 3) := by decide +kernel
theorem dX1_forget_4 : decode cX1_forget 4 = .ok (.iconst (-1), 1) := by decide +kernel
theorem dX1_forget_5 : decode cX1_forget 5 = .ok (.invokestatic 22, 3) := by decide +kernel
theorem dX1_forget_8 : decode cX1_forget 8 = .ok (.aload_n 0, 1) := by decide +kernel
theorem dX1_forget_9 : decode cX1_forget 9 = .ok (.iconst 0, 1) := by decide +kernel
theorem dX1_forget_10 : decode cX1_forget 10 = .ok (.putfield 18, 3) := by decide +kernel
theorem dX1_forget_13 : decode cX1_forget 13 = .ok (.return_, 1) := by decide +kernel
theorem dX1_meet_0 : decode cX1_meet 0 = .ok (.aload_n 0, 1) := by decide +kernel
theorem dX1_meet_1 : decode cX1_meet 1 = .ok (.getfield 15, 3) := by decide +kernel
theorem dX1_meet_4 : decode cX1_meet 4 = .ok (.iload_n 1, 1) := by decide +kernel
theorem dX1_meet_5 : decode cX1_meet 5 = .ok (.iaload, 1) := by decide +kernel
theorem dX1_meet_6 : decode cX1_meet 6 = .ok (.iconst (-1), 1) := by decide +kernel
theorem dX1_meet_7 : decode cX1_meet 7 = .ok (.if_icmp .ne 31, 3) := by decide +kernel
theorem dX1_meet_10 : decode cX1_meet 10 = .ok (.aload_n 0, 1) := by decide +kernel
theorem dX1_meet_11 : decode cX1_meet 11 = .ok (.getfield 18, 3) := by decide +kernel
theorem dX1_meet_14 : decode cX1_meet 14 = .ok (.bipush 8, 2) := by decide +kernel
theorem dX1_meet_16 : decode cX1_meet 16 = .ok (.if_icmp .ge 22, 3) := by decide +kernel
theorem dX1_meet_19 : decode cX1_meet 19 = .ok (.aload_n 0, 1) := by decide +kernel
theorem dX1_meet_20 : decode cX1_meet 20 = .ok (.iload_n 1, 1) := by decide +kernel
theorem dX1_meet_21 : decode cX1_meet 21 = .ok (.aload_n 0, 1) := by decide +kernel
theorem dX1_meet_22 : decode cX1_meet 22 = .ok (.getfield 18, 3) := by decide +kernel
theorem dX1_meet_25 : decode cX1_meet 25 = .ok (.invokevirtual 28, 3) := by decide +kernel
theorem dX1_meet_28 : decode cX1_meet 28 = .ok (.aload_n 0, 1) := by decide +kernel
theorem dX1_meet_29 : decode cX1_meet 29 = .ok (.dup, 1) := by decide +kernel
theorem dX1_meet_30 : decode cX1_meet 30 = .ok (.getfield 18, 3) := by decide +kernel
theorem dX1_meet_33 : decode cX1_meet 33 = .ok (.iconst 1, 1) := by decide +kernel
theorem dX1_meet_34 : decode cX1_meet 34 = .ok (.iadd, 1) := by decide +kernel
theorem dX1_meet_35 : decode cX1_meet 35 = .ok (.putfield 18, 3) := by decide +kernel
theorem dX1_meet_38 : decode cX1_meet 38 = .ok (.return_, 1) := by decide +kernel
theorem dX1_meetOthers_0 : decode cX1_meetOthers 0 = .ok (.aload_n 0, 1) := by decide +kernel
theorem dX1_meetOthers_1 : decode cX1_meetOthers 1 = .ok (.getfield 18, 3) := by decide +kernel
theorem dX1_meetOthers_4 : decode cX1_meetOthers 4 = .ok (.istore_n 1, 1) := by decide +kernel
theorem dX1_meetOthers_5 : decode cX1_meetOthers 5 = .ok (.iconst 0, 1) := by decide +kernel
theorem dX1_meetOthers_6 : decode cX1_meetOthers 6 = .ok (.istore_n 2, 1) := by decide +kernel
theorem dX1_meetOthers_7 : decode cX1_meetOthers 7 = .ok (.iload_n 2, 1) := by decide +kernel
theorem dX1_meetOthers_8 : decode cX1_meetOthers 8 = .ok (.bipush 8, 2) := by decide +kernel
theorem dX1_meetOthers_10 : decode cX1_meetOthers 10 = .ok (.if_icmp .ge 14, 3) := by decide +kernel
theorem dX1_meetOthers_13 : decode cX1_meetOthers 13 = .ok (.aload_n 0, 1) := by decide +kernel
theorem dX1_meetOthers_14 : decode cX1_meetOthers 14 = .ok (.iload_n 2, 1) := by decide +kernel
theorem dX1_meetOthers_15 : decode cX1_meetOthers 15 = .ok (.invokevirtual 32, 3) := by decide +kernel
theorem dX1_meetOthers_18 : decode cX1_meetOthers 18 = .ok (.iinc 2 1, 3) := by decide +kernel
theorem dX1_meetOthers_21 : decode cX1_meetOthers 21 = .ok (.goto (-14), 3) := by decide +kernel
theorem dX1_meetOthers_24 : decode cX1_meetOthers 24 = .ok (.iload_n 1, 1) := by decide +kernel
theorem dX1_meetOthers_25 : decode cX1_meetOthers 25 = .ok (.ireturn, 1) := by decide +kernel
theorem dX1_moveTo_0 : decode cX1_moveTo 0 = .ok (.aload_n 0, 1) := by decide +kernel
theorem dX1_moveTo_1 : decode cX1_moveTo 1 = .ok (.getfield 15, 3) := by decide +kernel
theorem dX1_moveTo_4 : decode cX1_moveTo 4 = .ok (.iload_n 1, 1) := by decide +kernel
theorem dX1_moveTo_5 : decode cX1_moveTo 5 = .ok (.iaload, 1) := by decide +kernel
theorem dX1_moveTo_6 : decode cX1_moveTo 6 = .ok (.istore_n 3, 1) := by decide +kernel
theorem dX1_moveTo_7 : decode cX1_moveTo 7 = .ok (.iload_n 3, 1) := by decide +kernel
theorem dX1_moveTo_8 : decode cX1_moveTo 8 = .ok (.istore 4, 2) := by decide +kernel
theorem dX1_moveTo_10 : decode cX1_moveTo 10 = .ok (.iload 4, 2) := by decide +kernel
theorem dX1_moveTo_12 : decode cX1_moveTo 12 = .ok (.iload_n 2, 1) := by decide +kernel
theorem dX1_moveTo_13 : decode cX1_moveTo 13 = .ok (.if_icmp .ge 24, 3) := by decide +kernel
theorem dX1_moveTo_16 : decode cX1_moveTo 16 = .ok (.aload_n 0, 1) := by decide +kernel
theorem dX1_moveTo_17 : decode cX1_moveTo 17 = .ok (.aload_n 0, 1) := by decide +kernel
theorem dX1_moveTo_18 : decode cX1_moveTo 18 = .ok (.getfield 9, 3) := by decide +kernel
theorem dX1_moveTo_21 : decode cX1_moveTo 21 = .ok (.iload 4, 2) := by decide +kernel
theorem dX1_moveTo_23 : decode cX1_moveTo 23 = .ok (.iconst 1, 1) := by decide +kernel
theorem dX1_moveTo_24 : decode cX1_moveTo 24 = .ok (.iadd, 1) := by decide +kernel
theorem dX1_moveTo_25 : decode cX1_moveTo 25 = .ok (.iaload, 1) := by decide +kernel
theorem dX1_moveTo_26 : decode cX1_moveTo 26 = .ok (.iload 4, 2) := by decide +kernel
theorem dX1_moveTo_28 : decode cX1_moveTo 28 = .ok (.invokevirtual 28, 3) := by decide +kernel
theorem dX1_moveTo_31 : decode cX1_moveTo 31 = .ok (.iinc 4 1, 3) := by decide +kernel
theorem dX1_moveTo_34 : decode cX1_moveTo 34 = .ok (.goto (-24), 3) := by decide +kernel
theorem dX1_moveTo_37 : decode cX1_moveTo 37 = .ok (.iload_n 3, 1) := by decide +kernel
theorem dX1_moveTo_38 : decode cX1_moveTo 38 = .ok (.istore 4, 2) := by decide +kernel
theorem dX1_moveTo_40 : decode cX1_moveTo 40 = .ok (.iload 4, 2) := by decide +kernel
theorem dX1_moveTo_42 : decode cX1_moveTo 42 = .ok (.iload_n 2, 1) := by decide +kernel
theorem dX1_moveTo_43 : decode cX1_moveTo 43 = .ok (.if_icmp .le 24, 3) := by decide +kernel
theorem dX1_moveTo_46 : decode cX1_moveTo 46 = .ok (.aload_n 0, 1) := by decide +kernel
theorem dX1_moveTo_47 : decode cX1_moveTo 47 = .ok (.aload_n 0, 1) := by decide +kernel
theorem dX1_moveTo_48 : decode cX1_moveTo 48 = .ok (.getfield 9, 3) := by decide +kernel
theorem dX1_moveTo_51 : decode cX1_moveTo 51 = .ok (.iload 4, 2) := by decide +kernel
theorem dX1_moveTo_53 : decode cX1_moveTo 53 = .ok (.iconst 1, 1) := by decide +kernel
theorem dX1_moveTo_54 : decode cX1_moveTo 54 = .ok (.isub, 1) := by decide +kernel
theorem dX1_moveTo_55 : decode cX1_moveTo 55 = .ok (.iaload, 1) := by decide +kernel
theorem dX1_moveTo_56 : decode cX1_moveTo 56 = .ok (.iload 4, 2) := by decide +kernel
theorem dX1_moveTo_58 : decode cX1_moveTo 58 = .ok (.invokevirtual 28, 3) := by decide +kernel
theorem dX1_moveTo_61 : decode cX1_moveTo 61 = .ok (.iinc 4 (-1), 3) := by decide +kernel
theorem dX1_moveTo_64 : decode cX1_moveTo 64 = .ok (.goto (-24), 3) := by decide +kernel
theorem dX1_moveTo_67 : decode cX1_moveTo 67 = .ok (.aload_n 0, 1) := by decide +kernel
theorem dX1_moveTo_68 : decode cX1_moveTo 68 = .ok (.iload_n 1, 1) := by decide +kernel
theorem dX1_moveTo_69 : decode cX1_moveTo 69 = .ok (.iload_n 2, 1) := by decide +kernel
theorem dX1_moveTo_70 : decode cX1_moveTo 70 = .ok (.invokevirtual 28, 3) := by decide +kernel
theorem dX1_moveTo_73 : decode cX1_moveTo 73 = .ok (.iload_n 3, 1) := by decide +kernel
theorem dX1_moveTo_74 : decode cX1_moveTo 74 = .ok (.ireturn, 1) := by decide +kernel
theorem dX1_put_0 : decode cX1_put 0 = .ok (.aload_n 0, 1) := by decide +kernel
theorem dX1_put_1 : decode cX1_put 1 = .ok (.getfield 9, 3) := by decide +kernel
theorem dX1_put_4 : decode cX1_put 4 = .ok (.iload_n 2, 1) := by decide +kernel
theorem dX1_put_5 : decode cX1_put 5 = .ok (.iload_n 1, 1) := by decide +kernel
theorem dX1_put_6 : decode cX1_put 6 = .ok (.iastore, 1) := by decide +kernel
theorem dX1_put_7 : decode cX1_put 7 = .ok (.aload_n 0, 1) := by decide +kernel
theorem dX1_put_8 : decode cX1_put 8 = .ok (.getfield 15, 3) := by decide +kernel
theorem dX1_put_11 : decode cX1_put 11 = .ok (.iload_n 1, 1) := by decide +kernel
theorem dX1_put_12 : decode cX1_put 12 = .ok (.iload_n 2, 1) := by decide +kernel
theorem dX1_put_13 : decode cX1_put 13 = .ok (.iastore, 1) := by decide +kernel
theorem dX1_put_14 : decode cX1_put 14 = .ok (.return_, 1) := by decide +kernel
theorem dX2_init_0 : decode cX2_init 0 = .ok (.aload_n 0, 1) := by decide +kernel
theorem dX2_init_1 : decode cX2_init 1 = .ok (.invokespecial 3, 3) := by decide +kernel
theorem dX2_init_4 : decode cX2_init 4 = .ok (.aload_n 0, 1) := by decide +kernel
theorem dX2_init_5 : decode cX2_init 5 = .ok (.sipush 252, 3) := by decide +kernel
theorem dX2_init_8 : decode cX2_init 8 = .ok (.newarray .int, 2) := by decide +kernel
theorem dX2_init_10 : decode cX2_init 10 = .ok (.putfield 11, 3) := by decide +kernel
theorem dX2_init_13 : decode cX2_init 13 = .ok (.aload_n 0, 1) := by decide +kernel
theorem dX2_init_14 : decode cX2_init 14 = .ok (.sipush 252, 3) := by decide +kernel
theorem dX2_init_17 : decode cX2_init 17 = .ok (.newarray .int, 2) := by decide +kernel
theorem dX2_init_19 : decode cX2_init 19 = .ok (.putfield 15, 3) := by decide +kernel
theorem dX2_init_22 : decode cX2_init 22 = .ok (.aload_n 0, 1) := by decide +kernel
theorem dX2_init_23 : decode cX2_init 23 = .ok (.sipush 252, 3) := by decide +kernel
theorem dX2_init_26 : decode cX2_init 26 = .ok (.newarray .int, 2) := by decide +kernel
theorem dX2_init_28 : decode cX2_init 28 = .ok (.putfield 18, 3) := by decide +kernel
theorem dX2_init_31 : decode cX2_init 31 = .ok (.aload_n 0, 1) := by decide +kernel
theorem dX2_init_32 : decode cX2_init 32 = .ok (.sipush 252, 3) := by decide +kernel
theorem dX2_init_35 : decode cX2_init 35 = .ok (.newarray .int, 2) := by decide +kernel
theorem dX2_init_37 : decode cX2_init 37 = .ok (.putfield 21, 3) := by decide +kernel
theorem dX2_init_40 : decode cX2_init 40 = .ok (.aload_n 0, 1) := by decide +kernel
theorem dX2_init_41 : decode cX2_init 41 = .ok (.sipush 252, 3) := by decide +kernel
theorem dX2_init_44 : decode cX2_init 44 = .ok (.newarray .int, 2) := by decide +kernel
theorem dX2_init_46 : decode cX2_init 46 = .ok (.putfield 24, 3) := by decide +kernel
theorem dX2_init_49 : decode cX2_init 49 = .ok (.aload_n 0, 1) := by decide +kernel
theorem dX2_init_50 : decode cX2_init 50 = .ok (.sipush 256, 3) := by decide +kernel
theorem dX2_init_53 : decode cX2_init 53 = .ok (.newarray .int, 2) := by decide +kernel
theorem dX2_init_55 : decode cX2_init 55 = .ok (.putfield 27, 3) := by decide +kernel
theorem dX2_init_58 : decode cX2_init 58 = .ok (.aload_n 0, 1) := by decide +kernel
theorem dX2_init_59 : decode cX2_init 59 = .ok (.iconst (-1), 1) := by decide +kernel
theorem dX2_init_60 : decode cX2_init 60 = .ok (.putfield 30, 3) := by decide +kernel
theorem dX2_init_63 : decode cX2_init 63 = .ok (.aload_n 0, 1) := by decide +kernel
theorem dX2_init_64 : decode cX2_init 64 = .ok (.iconst 0, 1) := by decide +kernel
theorem dX2_init_65 : decode cX2_init 65 = .ok (.putfield 34, 3) := by decide +kernel
theorem dX2_init_68 : decode cX2_init 68 = .ok (.aload_n 0, 1) := by decide +kernel
theorem dX2_init_69 : decode cX2_init 69 = .ok (.sipush 250, 3) := by decide +kernel
theorem dX2_init_72 : decode cX2_init 72 = .ok (.putfield 37, 3) := by decide +kernel
theorem dX2_init_75 : decode cX2_init 75 = .ok (.aload_n 0, 1) := by decide +kernel
theorem dX2_init_76 : decode cX2_init 76 = .ok (.getfield 11, 3) := by decide +kernel
theorem dX2_init_79 : decode cX2_init 79 = .ok (.iconst 0, 1) := by decide +kernel
theorem dX2_init_80 : decode cX2_init 80 = .ok (.bipush 8, 2) := by decide +kernel
theorem dX2_init_82 : decode cX2_init 82 = .ok (.iastore, 1) := by decide +kernel
theorem dX2_init_83 : decode cX2_init 83 = .ok (.aload_n 0, 1) := by decide +kernel
theorem dX2_init_84 : decode cX2_init 84 = .ok (.getfield 11, 3) := by decide +kernel
theorem dX2_init_87 : decode cX2_init 87 = .ok (.iconst 1, 1) := by decide +kernel
theorem dX2_init_88 : decode cX2_init 88 = .ok (.bipush 8, 2) := by decide +kernel
theorem dX2_init_90 : decode cX2_init 90 = .ok (.iastore, 1) := by decide +kernel
theorem dX2_init_91 : decode cX2_init 91 = .ok (.aload_n 0, 1) := by decide +kernel
theorem dX2_init_92 : decode cX2_init 92 = .ok (.invokevirtual 40, 3) := by decide +kernel
theorem dX2_init_95 : decode cX2_init 95 = .ok (.return_, 1) := by decide +kernel
theorem dX2_limit_0 : decode cX2_limit 0 = .ok (.aload_n 0, 1) := by decide +kernel
theorem dX2_limit_1 : decode cX2_limit 1 = .ok (.getfield 37, 3) := by decide +kernel
theorem dX2_limit_4 : decode cX2_limit 4 = .ok (.ireturn, 1) := by decide +kernel
theorem dX2_changeLimit_0 : decode cX2_changeLimit 0 = .ok (.aload_n 0, 1) := by decide +kernel
theorem dX2_changeLimit_1 : decode cX2_changeLimit 1 = .ok (.getfield 37, 3) := by decide +kernel
theorem dX2_changeLimit_4 : decode cX2_changeLimit 4 = .ok (.istore_n 2, 1) := by decide +kernel
theorem dX2_changeLimit_5 : decode cX2_changeLimit 5 = .ok (.aload_n 0, 1) := by decide +kernel
theorem dX2_changeLimit_6 : decode cX2_changeLimit 6 = .ok (.iload_n 1, 1) := by decide +kernel
theorem dX2_changeLimit_7 : decode cX2_changeLimit 7 = .ok (.putfield 37, 3) := by decide +kernel
theorem dX2_changeLimit_10 : decode cX2_changeLimit 10 = .ok (.iload_n 2, 1) := by decide +kernel
theorem dX2_changeLimit_11 : decode cX2_changeLimit 11 = .ok (.ireturn, 1) := by decide +kernel
theorem dX2_usedCount_0 : decode cX2_usedCount 0 = .ok (.aload_n 0, 1) := by decide +kernel
theorem dX2_usedCount_1 : decode cX2_usedCount 1 = .ok (.getfield 34, 3) := by decide +kernel
theorem dX2_usedCount_4 : decode cX2_usedCount 4 = .ok (.ireturn, 1) := by decide +kernel
theorem dX2_placeOf_0 : decode cX2_placeOf 0 = .ok (.aload_n 0, 1) := by decide +kernel
theorem dX2_placeOf_1 : decode cX2_placeOf 1 = .ok (.getfield 11, 3) := by decide +kernel
theorem dX2_placeOf_4 : decode cX2_placeOf 4 = .ok (.iload_n 1, 1) := by decide +kernel
theorem dX2_placeOf_5 : decode cX2_placeOf 5 = .ok (.iaload, 1) := by decide +kernel
theorem dX2_placeOf_6 : decode cX2_placeOf 6 = .ok (.ireturn, 1) := by decide +kernel
theorem dX2_unmark_0 : decode cX2_unmark 0 = .ok (.aload_n 0, 1) := by decide +kernel
theorem dX2_unmark_1 : decode cX2_unmark 1 = .ok (.getfield 21, 3) := by decide +kernel
theorem dX2_unmark_4 : decode cX2_unmark 4 = .ok (.iconst 0, 1) := by decide +kernel
theorem dX2_unmark_5 : decode cX2_unmark 5 = .ok (.invokestatic 43, 3) := by decide +kernel
theorem dX2_unmark_8 : decode cX2_unmark 8 = .ok (.return_, 1) := by decide +kernel
theorem dX2_mark_0 : decode cX2_mark 0 = .ok (.aload_n 0, 1) := by decide +kernel
theorem dX2_mark_1 : decode cX2_mark 1 = .ok (.iconst 1, 1) := by decide +kernel
theorem dX2_mark_2 : decode cX2_mark 2 = .ok (.iload_n 1, 1) := by decide +kernel
theorem dX2_mark_3 : decode cX2_mark 3 = .ok (.iconst 0, 1) := by decide +kernel
theorem dX2_mark_4 : decode cX2_mark 4 = .ok (.invokevirtual 49, 3) := by decide +kernel
theorem dX2_mark_7 : decode cX2_mark 7 = .ok (.return_, 1) := by decide +kernel
theorem dX2_markWith_0 : decode cX2_markWith 0 = .ok (.iload_n 2, 1) := by decide +kernel
theorem dX2_markWith_1 : decode cX2_markWith 1 = .ok (.iconst 2, 1) := by decide +kernel
theorem dX2_markWith_2 : decode cX2_markWith 2 = .ok (.if_icmp .lt 20, 3) := by decide +kernel
theorem dX2_markWith_5 : decode cX2_markWith 5 = .ok (.iload_n 3, 1) := by decide +kernel
theorem dX2_markWith_6 : decode cX2_markWith 6 = .ok (.bipush 8, 2) := by decide +kernel
theorem dX2_markWith_8 : decode cX2_markWith 8 = .ok (.if_icmp .ge 14, 3) := by decide +kernel
theorem dX2_markWith_11 : decode cX2_markWith 11 = .ok (.aload_n 0, 1) := by decide +kernel
theorem dX2_markWith_12 : decode cX2_markWith 12 = .ok (.getfield 21, 3) := by decide +kernel
theorem dX2_markWith_15 : decode cX2_markWith 15 = .ok (.iload_n 2, 1) := by decide +kernel
theorem dX2_markWith_16 : decode cX2_markWith 16 = .ok (.iaload, 1) := by decide +kernel
theorem dX2_markWith_17 : decode cX2_markWith 17 = .ok (.iload_n 1, 1) := by decide +kernel
theorem dX2_markWith_18 : decode cX2_markWith 18 = .ok (.iand, 1) := by decide +kernel
theorem dX2_markWith_19 : decode cX2_markWith 19 = .ok (.ifCond .eq 4, 3) := by decide +kernel
theorem dX2_markWith_22 : decode cX2_markWith 22 = .ok (.return_, 1) := by decide +kernel
theorem dX2_markWith_23 : decode cX2_markWith 23 = .ok (.aload_n 0, 1) := by decide +kernel
theorem dX2_markWith_24 : decode cX2_markWith 24 = .ok (.getfield 21, 3) := by decide +kernel
theorem dX2_markWith_27 : decode cX2_markWith 27 = .ok (.iload_n 2, 1) := by decide +kernel
theorem dX2_markWith_28 : decode cX2_markWith 28 = .ok (.dup2, 1) := by decide +kernel
theorem dX2_markWith_29 : decode cX2_markWith 29 = .ok (.iaload, 1) := by decide +kernel
theorem dX2_markWith_30 : decode cX2_markWith 30 = .ok (.iload_n 1, 1) := by decide +kernel
theorem dX2_markWith_31 : decode cX2_markWith 31 = .ok (.ior, 1) := by decide +kernel
theorem dX2_markWith_32 : decode cX2_markWith 32 = .ok (.iastore, 1) := by decide +kernel
theorem dX2_markWith_33 : decode cX2_markWith 33 = .ok (.aload_n 0, 1) := by decide +kernel
theorem dX2_markWith_34 : decode cX2_markWith 34 = .ok (.iload_n 1, 1) := by decide +kernel
theorem dX2_markWith_35 : decode cX2_markWith 35 = .ok (.aload_n 0, 1) := by decide +kernel
theorem dX2_markWith_36 : decode cX2_markWith 36 = .ok (.getfield 15, 3) := by decide +kernel
theorem dX2_markWith_39 : decode cX2_markWith 39 = .ok (.iload_n 2, 1) := by decide +kernel
theorem dX2_markWith_40 : decode cX2_markWith 40 = .ok (.iaload, 1) := by decide +kernel
theorem dX2_markWith_41 : decode cX2_markWith 41 = .ok (.iload_n 3, 1) := by decide +kernel
theorem dX2_markWith_42 : decode cX2_markWith 42 = .ok (.iconst 1, 1) := by decide +kernel
theorem dX2_markWith_43 : decode cX2_markWith 43 = .ok (.iadd, 1) := by decide +kernel
theorem dX2_markWith_44 : decode cX2_markWith 44 = .ok (.invokevirtual 49, 3) := by decide +kernel
theorem dX2_markWith_47 : decode cX2_markWith 47 = .ok (.aload_n 0, 1) := by decide +kernel
theorem dX2_markWith_48 : decode cX2_markWith 48 = .ok (.iload_n 1, 1) := by decide +kernel
theorem dX2_markWith_49 : decode cX2_markWith 49 = .ok (.aload_n 0, 1) := by decide +kernel
theorem dX2_markWith_50 : decode cX2_markWith 50 = .ok (.getfield 18, 3) := by decide +kernel
theorem dX2_markWith_53 : decode cX2_markWith 53 = .ok (.iload_n 2, 1) := by decide +kernel
theorem dX2_markWith_54 : decode cX2_markWith 54 = .ok (.iaload, 1) := by decide +kernel
theorem dX2_markWith_55 : decode cX2_markWith 55 = .ok (.iload_n 3, 1) := by decide +kernel
theorem dX2_markWith_56 : decode cX2_markWith 56 = .ok (.iconst 1, 1) := by decide +kernel
theorem dX2_markWith_57 : decode cX2_markWith 57 = .ok (.iadd, 1) := by decide +kernel
theorem dX2_markWith_58 : decode cX2_markWith 58 = .ok (.invokevirtual 49, 3) := by decide +kernel
theorem dX2_markWith_61 : decode cX2_markWith 61 = .ok (.return_, 1) := by decide +kernel
theorem dX2_markedWith_0 : decode cX2_markedWith 0 = .ok (.iconst 0, 1) := by decide +kernel
theorem dX2_markedWith_1 : decode cX2_markedWith 1 = .ok (.istore_n 2, 1) := by decide +kernel
theorem dX2_markedWith_2 : decode cX2_markedWith 2 = .ok (.iconst 2, 1) := by decide +kernel
theorem dX2_markedWith_3 : decode cX2_markedWith 3 = .ok (.istore_n 3, 1) := by decide +kernel
theorem dX2_markedWith_4 : decode cX2_markedWith 4 = .ok (.iload_n 3, 1) := by decide +kernel
theorem dX2_markedWith_5 : decode cX2_markedWith 5 = .ok (.sipush 252, 3) := by decide +kernel
theorem dX2_markedWith_8 : decode cX2_markedWith 8 = .ok (.if_icmp .ge 22, 3) := by decide +kernel
theorem dX2_markedWith_11 : decode cX2_markedWith 11 = .ok (.aload_n 0, 1) := by decide +kernel
theorem dX2_markedWith_12 : decode cX2_markedWith 12 = .ok (.getfield 21, 3) := by decide +kernel
theorem dX2_markedWith_15 : decode cX2_markedWith 15 = .ok (.iload_n 3, 1) := by decide +kernel
theorem dX2_markedWith_16 : decode cX2_markedWith 16 = .ok (.iaload, 1) := by decide +kernel
theorem dX2_markedWith_17 : decode cX2_markedWith 17 = .ok (.iload_n 1, 1) := by decide +kernel
theorem dX2_markedWith_18 : decode cX2_markedWith 18 = .ok (.if_icmp .ne 6, 3) := by decide +kernel
theorem dX2_markedWith_21 : decode cX2_markedWith 21 = .ok (.iinc 2 1, 3) := by decide +kernel
theorem dX2_markedWith_24 : decode cX2_markedWith 24 = .ok (.iinc 3 1, 3) := by decide +kernel
theorem dX2_markedWith_27 : decode cX2_markedWith 27 = .ok (.goto (-23), 3) := by decide +kernel
theorem dX2_markedWith_30 : decode cX2_markedWith 30 = .ok (.iload_n 2, 1) := by decide +kernel
theorem dX2_markedWith_31 : decode cX2_markedWith 31 = .ok (.ireturn, 1) := by decide +kernel
theorem dX2_nodeCount_0 : decode cX2_nodeCount 0 = .ok (.aload_n 0, 1) := by decide +kernel
theorem dX2_nodeCount_1 : decode cX2_nodeCount 1 = .ok (.invokevirtual 53, 3) := by decide +kernel
theorem dX2_nodeCount_4 : decode cX2_nodeCount 4 = .ok (.aload_n 0, 1) := by decide +kernel
theorem dX2_nodeCount_5 : decode cX2_nodeCount 5 = .ok (.iload_n 1, 1) := by decide +kernel
theorem dX2_nodeCount_6 : decode cX2_nodeCount 6 = .ok (.invokevirtual 56, 3) := by decide +kernel
theorem dX2_nodeCount_9 : decode cX2_nodeCount 9 = .ok (.aload_n 0, 1) := by decide +kernel
theorem dX2_nodeCount_10 : decode cX2_nodeCount 10 = .ok (.iconst 1, 1) := by decide +kernel
theorem dX2_nodeCount_11 : decode cX2_nodeCount 11 = .ok (.invokevirtual 60, 3) := by decide +kernel
theorem dX2_nodeCount_14 : decode cX2_nodeCount 14 = .ok (.ireturn, 1) := by decide +kernel
theorem dX2_nodeCountAt_0 : decode cX2_nodeCountAt 0 = .ok (.aload_n 0, 1) := by decide +kernel
theorem dX2_nodeCountAt_1 : decode cX2_nodeCountAt 1 = .ok (.invokevirtual 53, 3) := by decide +kernel
theorem dX2_nodeCountAt_4 : decode cX2_nodeCountAt 4 = .ok (.aload_n 0, 1) := by decide +kernel
theorem dX2_nodeCountAt_5 : decode cX2_nodeCountAt 5 = .ok (.iload_n 1, 1) := by decide +kernel
theorem dX2_nodeCountAt_6 : decode cX2_nodeCountAt 6 = .ok (.invokevirtual 56, 3) := by decide +kernel
theorem dX2_nodeCountAt_9 : decode cX2_nodeCountAt 9 = .ok (.iconst 0, 1) := by decide +kernel
theorem dX2_nodeCountAt_10 : decode cX2_nodeCountAt 10 = .ok (.istore_n 3, 1) := by decide +kernel
theorem dX2_nodeCountAt_11 : decode cX2_nodeCountAt 11 = .ok (.iconst 2, 1) := by decide +kernel
theorem dX2_nodeCountAt_12 : decode cX2_nodeCountAt 12 = .ok (.istore 4, 2) := by decide +kernel
theorem dX2_nodeCountAt_14 : decode cX2_nodeCountAt 14 = .ok (.iload 4, 2) := by decide +kernel
theorem dX2_nodeCountAt_16 : decode cX2_nodeCountAt 16 = .ok (.sipush 252, 3) := by decide +kernel
theorem dX2_nodeCountAt_19 : decode cX2_nodeCountAt 19 = .ok (.if_icmp .ge 33, 3) := by decide +kernel
theorem dX2_nodeCountAt_22 : decode cX2_nodeCountAt 22 = .ok (.aload_n 0, 1) := by decide +kernel
theorem dX2_nodeCountAt_23 : decode cX2_nodeCountAt 23 = .ok (.getfield 21, 3) := by decide +kernel
theorem dX2_nodeCountAt_26 : decode cX2_nodeCountAt 26 = .ok (.iload 4, 2) := by decide +kernel
theorem dX2_nodeCountAt_28 : decode cX2_nodeCountAt 28 = .ok (.iaload, 1) := by decide +kernel
theorem dX2_nodeCountAt_29 : decode cX2_nodeCountAt 29 = .ok (.ifCond .eq 17, 3) := by decide +kernel
theorem dX2_nodeCountAt_32 : decode cX2_nodeCountAt 32 = .ok (.aload_n 0, 1) := by decide +kernel
theorem dX2_nodeCountAt_33 : decode cX2_nodeCountAt 33 = .ok (.getfield 11, 3) := by decide +kernel
theorem dX2_nodeCountAt_36 : decode cX2_nodeCountAt 36 = .ok (.iload 4, 2) := by decide +kernel
theorem dX2_nodeCountAt_38 : decode cX2_nodeCountAt 38 = .ok (.iaload, 1) := by decide +kernel
theorem dX2_nodeCountAt_39 : decode cX2_nodeCountAt 39 = .ok (.iload_n 2, 1) := by decide +kernel
theorem dX2_nodeCountAt_40 : decode cX2_nodeCountAt 40 = .ok (.if_icmp .ne 6, 3) := by decide +kernel
theorem dX2_nodeCountAt_43 : decode cX2_nodeCountAt 43 = .ok (.iinc 3 1, 3) := by decide +kernel
theorem dX2_nodeCountAt_46 : decode cX2_nodeCountAt 46 = .ok (.iinc 4 1, 3) := by decide +kernel
theorem dX2_nodeCountAt_49 : decode cX2_nodeCountAt 49 = .ok (.goto (-35), 3) := by decide +kernel
theorem dX2_nodeCountAt_52 : decode cX2_nodeCountAt 52 = .ok (.iload_n 3, 1) := by decide +kernel
theorem dX2_nodeCountAt_53 : decode cX2_nodeCountAt 53 = .ok (.ireturn, 1) := by decide +kernel
theorem dX2_commonCount_0 : decode cX2_commonCount 0 = .ok (.aload_n 0, 1) := by decide +kernel
theorem dX2_commonCount_1 : decode cX2_commonCount 1 = .ok (.invokevirtual 53, 3) := by decide +kernel
theorem dX2_commonCount_4 : decode cX2_commonCount 4 = .ok (.aload_n 0, 1) := by decide +kernel
theorem dX2_commonCount_5 : decode cX2_commonCount 5 = .ok (.iconst 1, 1) := by decide +kernel
theorem dX2_commonCount_6 : decode cX2_commonCount 6 = .ok (.iload_n 1, 1) := by decide +kernel
theorem dX2_commonCount_7 : decode cX2_commonCount 7 = .ok (.iconst 0, 1) := by decide +kernel
theorem dX2_commonCount_8 : decode cX2_commonCount 8 = .ok (.invokevirtual 49, 3) := by decide +kernel
theorem dX2_commonCount_11 : decode cX2_commonCount 11 = .ok (.aload_n 0, 1) := by decide +kernel
theorem dX2_commonCount_12 : decode cX2_commonCount 12 = .ok (.iconst 2, 1) := by decide +kernel
theorem dX2_commonCount_13 : decode cX2_commonCount 13 = .ok (.iload_n 2, 1) := by decide +kernel
theorem dX2_commonCount_14 : decode cX2_commonCount 14 = .ok (.iconst 0, 1) := by decide +kernel
theorem dX2_commonCount_15 : decode cX2_commonCount 15 = .ok (.invokevirtual 49, 3) := by decide +kernel
theorem dX2_commonCount_18 : decode cX2_commonCount 18 = .ok (.aload_n 0, 1) := by decide +kernel
theorem dX2_commonCount_19 : decode cX2_commonCount 19 = .ok (.iconst 3, 1) := by decide +kernel
theorem dX2_commonCount_20 : decode cX2_commonCount 20 = .ok (.invokevirtual 60, 3) := by decide +kernel
theorem dX2_commonCount_23 : decode cX2_commonCount 23 = .ok (.ireturn, 1) := by decide +kernel
theorem dX2_sweep_0 : decode cX2_sweep 0 = .ok (.aload_n 0, 1) := by decide +kernel
theorem dX2_sweep_1 : decode cX2_sweep 1 = .ok (.getfield 27, 3) := by decide +kernel
theorem dX2_sweep_4 : decode cX2_sweep 4 = .ok (.iconst (-1), 1) := by decide +kernel
theorem dX2_sweep_5 : decode cX2_sweep 5 = .ok (.invokestatic 43, 3) := by decide +kernel
theorem dX2_sweep_8 : decode cX2_sweep 8 = .ok (.aload_n 0, 1) := by decide +kernel
theorem dX2_sweep_9 : decode cX2_sweep 9 = .ok (.iconst (-1), 1) := by decide +kernel
theorem dX2_sweep_10 : decode cX2_sweep 10 = .ok (.putfield 30, 3) := by decide +kernel
theorem dX2_sweep_13 : decode cX2_sweep 13 = .ok (.aload_n 0, 1) := by decide +kernel
theorem dX2_sweep_14 : decode cX2_sweep 14 = .ok (.iconst 0, 1) := by decide +kernel
theorem dX2_sweep_15 : decode cX2_sweep 15 = .ok (.putfield 34, 3) := by decide +kernel
theorem dX2_sweep_18 : decode cX2_sweep 18 = .ok (.sipush 251, 3) := by decide +kernel
theorem dX2_sweep_21 : decode cX2_sweep 21 = .ok (.istore_n 1, 1) := by decide +kernel
theorem dX2_sweep_22 : decode cX2_sweep 22 = .ok (.iload_n 1, 1) := by decide +kernel
theorem dX2_sweep_23 : decode cX2_sweep 23 = .ok (.iconst 2, 1) := by decide +kernel
theorem dX2_sweep_24 : decode cX2_sweep 24 = .ok (.if_icmp .lt 41, 3) := by decide +kernel
theorem dX2_sweep_27 : decode cX2_sweep 27 = .ok (.aload_n 0, 1) := by decide +kernel
theorem dX2_sweep_28 : decode cX2_sweep 28 = .ok (.getfield 21, 3) := by decide +kernel
theorem dX2_sweep_31 : decode cX2_sweep 31 = .ok (.iload_n 1, 1) := by decide +kernel
theorem dX2_sweep_32 : decode cX2_sweep 32 = .ok (.iaload, 1) := by decide +kernel
theorem dX2_sweep_33 : decode cX2_sweep 33 = .ok (.ifCond .eq 11, 3) := by decide +kernel
theorem dX2_sweep_36 : decode cX2_sweep 36 = .ok (.aload_n 0, 1) := by decide +kernel
theorem dX2_sweep_37 : decode cX2_sweep 37 = .ok (.iload_n 1, 1) := by decide +kernel
theorem dX2_sweep_38 : decode cX2_sweep 38 = .ok (.invokevirtual 64, 3) := by decide +kernel
theorem dX2_sweep_41 : decode cX2_sweep 41 = .ok (.goto 18, 3) := by decide +kernel
theorem dX2_sweep_44 : decode cX2_sweep 44 = .ok (.aload_n 0, 1) := by decide +kernel
theorem dX2_sweep_45 : decode cX2_sweep 45 = .ok (.getfield 24, 3) := by decide +kernel
theorem dX2_sweep_48 : decode cX2_sweep 48 = .ok (.iload_n 1, 1) := by decide +kernel
theorem dX2_sweep_49 : decode cX2_sweep 49 = .ok (.aload_n 0, 1) := by decide +kernel
theorem dX2_sweep_50 : decode cX2_sweep 50 = .ok (.getfield 30, 3) := by decide +kernel
theorem dX2_sweep_53 : decode cX2_sweep 53 = .ok (.iastore, 1) := by decide +kernel
theorem dX2_sweep_54 : decode cX2_sweep 54 = .ok (.aload_n 0, 1) := by decide +kernel
theorem dX2_sweep_55 : decode cX2_sweep 55 = .ok (.iload_n 1, 1) := by decide +kernel
theorem dX2_sweep_56 : decode cX2_sweep 56 = .ok (.putfield 30, 3) := by decide +kernel
theorem dX2_sweep_59 : decode cX2_sweep 59 = .ok (.iinc 1 (-1), 3) := by decide +kernel
theorem dX2_sweep_62 : decode cX2_sweep 62 = .ok (.goto (-40), 3) := by decide +kernel
theorem dX2_sweep_65 : decode cX2_sweep 65 = .ok (.return_, 1) := by decide +kernel
theorem dX2_makeVariable_0 : decode cX2_makeVariable 0 = .ok (.aload_n 0, 1) := by decide +kernel
theorem dX2_makeVariable_1 : decode cX2_makeVariable 1 = .ok (.iload_n 1, 1) := by decide +kernel
theorem dX2_makeVariable_2 : decode cX2_makeVariable 2 = .ok (.iconst 0, 1) := by decide +kernel
theorem dX2_makeVariable_3 : decode cX2_makeVariable 3 = .ok (.iconst 1, 1) := by decide +kernel
theorem dX2_makeVariable_4 : decode cX2_makeVariable 4 = .ok (.invokevirtual 67, 3) := by decide +kernel
theorem dX2_makeVariable_7 : decode cX2_makeVariable 7 = .ok (.ireturn, 1) := by decide +kernel
theorem dX2_make_0 : decode cX2_make 0 = .ok (.aload_n 0, 1) := by decide +kernel
theorem dX2_make_1 : decode cX2_make 1 = .ok (.iload_n 1, 1) := by decide +kernel
theorem dX2_make_2 : decode cX2_make 2 = .ok (.iload_n 2, 1) := by decide +kernel
theorem dX2_make_3 : decode cX2_make 3 = .ok (.iload_n 3, 1) := by decide +kernel
theorem dX2_make_4 : decode cX2_make 4 = .ok (.iload 4, 2) := by decide +kernel
theorem dX2_make_6 : decode cX2_make 6 = .ok (.iconst 0, 1) := by decide +kernel
theorem dX2_make_7 : decode cX2_make 7 = .ok (.invokevirtual 71, 3) := by decide +kernel
theorem dX2_make_10 : decode cX2_make 10 = .ok (.ireturn, 1) := by decide +kernel
theorem dX2_makeFrom_0 : decode cX2_makeFrom 0 = .ok (.iload_n 1, 1) := by decide +kernel
theorem dX2_makeFrom_1 : decode cX2_makeFrom 1 = .ok (.iload_n 2, 1) := by decide +kernel
theorem dX2_makeFrom_2 : decode cX2_makeFrom 2 = .ok (.iconst 1, 1) := by decide +kernel
theorem dX2_makeFrom_3 : decode cX2_makeFrom 3 = .ok (.bipush 85, 2) := by decide +kernel
theorem dX2_makeFrom_5 : decode cX2_makeFrom 5 = .ok (.invokestatic 75, 3) := by decide +kernel
theorem dX2_makeFrom_8 : decode cX2_makeFrom 8 = .ok (.iload_n 3, 1) := by decide +kernel
theorem dX2_makeFrom_9 : decode cX2_makeFrom 9 = .ok (.iconst 2, 1) := by decide +kernel
theorem dX2_makeFrom_10 : decode cX2_makeFrom 10 = .ok (.bipush 51, 2) := by decide +kernel
theorem dX2_makeFrom_12 : decode cX2_makeFrom 12 = .ok (.invokestatic 75, 3) := by decide +kernel
theorem dX2_makeFrom_15 : decode cX2_makeFrom 15 = .ok (.iload 4, 2) := by decide +kernel
theorem dX2_makeFrom_17 : decode cX2_makeFrom 17 = .ok (.iconst 4, 1) := by decide +kernel
theorem dX2_makeFrom_18 : decode cX2_makeFrom 18 = .ok (.bipush 15, 2) := by decide +kernel
theorem dX2_makeFrom_20 : decode cX2_makeFrom 20 = .ok (.invokestatic 75, 3) := by decide +kernel
theorem dX2_makeFrom_23 : decode cX2_makeFrom 23 = .ok (.istore 6, 2) := by decide +kernel
theorem dX2_makeFrom_25 : decode cX2_makeFrom 25 = .ok (.iload 6, 2) := by decide +kernel
theorem dX2_makeFrom_27 : decode cX2_makeFrom 27 = .ok (.lookupswitch 60 #[(0, 49), (170, 53), (204, 55), (240, 57), (255, 51)], 49) := by decide +kernel
theorem dX2_makeFrom_76 : decode cX2_makeFrom 76 = .ok (.iconst 0, 1) := by decide +kernel
theorem dX2_makeFrom_77 : decode cX2_makeFrom 77 = .ok (.ireturn, 1) := by decide +kernel
theorem dX2_makeFrom_78 : decode cX2_makeFrom 78 = .ok (.iconst 1, 1) := by decide +kernel
theorem dX2_makeFrom_79 : decode cX2_makeFrom 79 = .ok (.ireturn, 1) := by decide +kernel
theorem dX2_makeFrom_80 : decode cX2_makeFrom 80 = .ok (.iload_n 2, 1) := by decide +kernel
theorem dX2_makeFrom_81 : decode cX2_makeFrom 81 = .ok (.ireturn, 1) := by decide +kernel
theorem dX2_makeFrom_82 : decode cX2_makeFrom 82 = .ok (.iload_n 3, 1) := by decide +kernel
theorem dX2_makeFrom_83 : decode cX2_makeFrom 83 = .ok (.ireturn, 1) := by decide +kernel
theorem dX2_makeFrom_84 : decode cX2_makeFrom 84 = .ok (.iload 4, 2) := by decide +kernel
theorem dX2_makeFrom_86 : decode cX2_makeFrom 86 = .ok (.ireturn, 1) := by decide +kernel
theorem dX2_makeFrom_87 : decode cX2_makeFrom 87 = .ok (.aload_n 0, 1) := by decide +kernel
theorem dX2_makeFrom_88 : decode cX2_makeFrom 88 = .ok (.getfield 11, 3) := by decide +kernel
theorem dX2_makeFrom_91 : decode cX2_makeFrom 91 = .ok (.iload_n 2, 1) := by decide +kernel
theorem dX2_makeFrom_92 : decode cX2_makeFrom 92 = .ok (.iaload, 1) := by decide +kernel
theorem dX2_makeFrom_93 : decode cX2_makeFrom 93 = .ok (.aload_n 0, 1) := by decide +kernel
theorem dX2_makeFrom_94 : decode cX2_makeFrom 94 = .ok (.getfield 11, 3) := by decide +kernel
theorem dX2_makeFrom_97 : decode cX2_makeFrom 97 = .ok (.iload_n 3, 1) := by decide +kernel
theorem dX2_makeFrom_98 : decode cX2_makeFrom 98 = .ok (.iaload, 1) := by decide +kernel
theorem dX2_makeFrom_99 : decode cX2_makeFrom 99 = .ok (.aload_n 0, 1) := by decide +kernel
theorem dX2_makeFrom_100 : decode cX2_makeFrom 100 = .ok (.getfield 11, 3) := by decide +kernel
theorem dX2_makeFrom_103 : decode cX2_makeFrom 103 = .ok (.iload 4, 2) := by decide +kernel
theorem dX2_makeFrom_105 : decode cX2_makeFrom 105 = .ok (.iaload, 1) := by decide +kernel
theorem dX2_makeFrom_106 : decode cX2_makeFrom 106 = .ok (.invokestatic 79, 3) := by decide +kernel
theorem dX2_makeFrom_109 : decode cX2_makeFrom 109 = .ok (.invokestatic 79, 3) := by decide +kernel
theorem dX2_makeFrom_112 : decode cX2_makeFrom 112 = .ok (.istore 7, 2) := by decide +kernel
theorem dX2_makeFrom_114 : decode cX2_makeFrom 114 = .ok (.iload 5, 2) := by decide +kernel
theorem dX2_makeFrom_116 : decode cX2_makeFrom 116 = .ok (.bipush 8, 2) := by decide +kernel
theorem dX2_makeFrom_118 : decode cX2_makeFrom 118 = .ok (.if_icmp .ge 10, 3) := by decide +kernel
theorem dX2_makeFrom_121 : decode cX2_makeFrom 121 = .ok (.iload 7, 2) := by decide +kernel
theorem dX2_makeFrom_123 : decode cX2_makeFrom 123 = .ok (.bipush 8, 2) := by decide +kernel
theorem dX2_makeFrom_125 : decode cX2_makeFrom 125 = .ok (.if_icmp .lt 5, 3) := by decide +kernel
theorem dX2_makeFrom_128 : decode cX2_makeFrom 128 = .ok (.iconst (-1), 1) := by decide +kernel
theorem dX2_makeFrom_129 : decode cX2_makeFrom 129 = .ok (.ireturn, 1) := by decide +kernel
theorem dX2_makeFrom_130 : decode cX2_makeFrom 130 = .ok (.aload_n 0, 1) := by decide +kernel
theorem dX2_makeFrom_131 : decode cX2_makeFrom 131 = .ok (.iload 6, 2) := by decide +kernel
theorem dX2_makeFrom_133 : decode cX2_makeFrom 133 = .ok (.aload_n 0, 1) := by decide +kernel
theorem dX2_makeFrom_134 : decode cX2_makeFrom 134 = .ok (.iload_n 2, 1) := by decide +kernel
theorem dX2_makeFrom_135 : decode cX2_makeFrom 135 = .ok (.iload 7, 2) := by decide +kernel
theorem dX2_makeFrom_137 : decode cX2_makeFrom 137 = .ok (.invokevirtual 85, 3) := by decide +kernel
theorem dX2_makeFrom_140 : decode cX2_makeFrom 140 = .ok (.aload_n 0, 1) := by decide +kernel
theorem dX2_makeFrom_141 : decode cX2_makeFrom 141 = .ok (.iload_n 3, 1) := by decide +kernel
theorem dX2_makeFrom_142 : decode cX2_makeFrom 142 = .ok (.iload 7, 2) := by decide +kernel
theorem dX2_makeFrom_144 : decode cX2_makeFrom 144 = .ok (.invokevirtual 85, 3) := by decide +kernel
theorem dX2_makeFrom_147 : decode cX2_makeFrom 147 = .ok (.aload_n 0, 1) := by decide +kernel
theorem dX2_makeFrom_148 : decode cX2_makeFrom 148 = .ok (.iload 4, 2) := by decide +kernel
theorem dX2_makeFrom_150 : decode cX2_makeFrom 150 = .ok (.iload 7, 2) := by decide +kernel
theorem dX2_makeFrom_152 : decode cX2_makeFrom 152 = .ok (.invokevirtual 85, 3) := by decide +kernel
theorem dX2_makeFrom_155 : decode cX2_makeFrom 155 = .ok (.iload 5, 2) := by decide +kernel
theorem dX2_makeFrom_157 : decode cX2_makeFrom 157 = .ok (.iconst 1, 1) := by decide +kernel
theorem dX2_makeFrom_158 : decode cX2_makeFrom 158 = .ok (.iadd, 1) := by decide +kernel
theorem dX2_makeFrom_159 : decode cX2_makeFrom 159 = .ok (.invokevirtual 71, 3) := by decide +kernel
theorem dX2_makeFrom_162 : decode cX2_makeFrom 162 = .ok (.istore 8, 2) := by decide +kernel
theorem dX2_makeFrom_164 : decode cX2_makeFrom 164 = .ok (.iload 8, 2) := by decide +kernel
theorem dX2_makeFrom_166 : decode cX2_makeFrom 166 = .ok (.iconst (-1), 1) := by decide +kernel
theorem dX2_makeFrom_167 : decode cX2_makeFrom 167 = .ok (.if_icmp .ne 5, 3) := by decide +kernel
theorem dX2_makeFrom_170 : decode cX2_makeFrom 170 = .ok (.iconst (-1), 1) := by decide +kernel
theorem dX2_makeFrom_171 : decode cX2_makeFrom 171 = .ok (.ireturn, 1) := by decide +kernel
theorem dX2_makeFrom_172 : decode cX2_makeFrom 172 = .ok (.aload_n 0, 1) := by decide +kernel
theorem dX2_makeFrom_173 : decode cX2_makeFrom 173 = .ok (.iload 6, 2) := by decide +kernel
theorem dX2_makeFrom_175 : decode cX2_makeFrom 175 = .ok (.aload_n 0, 1) := by decide +kernel
theorem dX2_makeFrom_176 : decode cX2_makeFrom 176 = .ok (.iload_n 2, 1) := by decide +kernel
theorem dX2_makeFrom_177 : decode cX2_makeFrom 177 = .ok (.iload 7, 2) := by decide +kernel
theorem dX2_makeFrom_179 : decode cX2_makeFrom 179 = .ok (.invokevirtual 88, 3) := by decide +kernel
theorem dX2_makeFrom_182 : decode cX2_makeFrom 182 = .ok (.aload_n 0, 1) := by decide +kernel
theorem dX2_makeFrom_183 : decode cX2_makeFrom 183 = .ok (.iload_n 3, 1) := by decide +kernel
theorem dX2_makeFrom_184 : decode cX2_makeFrom 184 = .ok (.iload 7, 2) := by decide +kernel
theorem dX2_makeFrom_186 : decode cX2_makeFrom 186 = .ok (.invokevirtual 88, 3) := by decide +kernel
theorem dX2_makeFrom_189 : decode cX2_makeFrom 189 = .ok (.aload_n 0, 1) := by decide +kernel
theorem dX2_makeFrom_190 : decode cX2_makeFrom 190 = .ok (.iload 4, 2) := by decide +kernel
theorem dX2_makeFrom_192 : decode cX2_makeFrom 192 = .ok (.iload 7, 2) := by decide +kernel
theorem dX2_makeFrom_194 : decode cX2_makeFrom 194 = .ok (.invokevirtual 88, 3) := by decide +kernel
theorem dX2_makeFrom_197 : decode cX2_makeFrom 197 = .ok (.iload 5, 2) := by decide +kernel
theorem dX2_makeFrom_199 : decode cX2_makeFrom 199 = .ok (.iconst 1, 1) := by decide +kernel
theorem dX2_makeFrom_200 : decode cX2_makeFrom 200 = .ok (.iadd, 1) := by decide +kernel
theorem dX2_makeFrom_201 : decode cX2_makeFrom 201 = .ok (.invokevirtual 71, 3) := by decide +kernel
theorem dX2_makeFrom_204 : decode cX2_makeFrom 204 = .ok (.istore 9, 2) := by decide +kernel
theorem dX2_makeFrom_206 : decode cX2_makeFrom 206 = .ok (.aload_n 0, 1) := by decide +kernel
theorem dX2_makeFrom_207 : decode cX2_makeFrom 207 = .ok (.iload 7, 2) := by decide +kernel
theorem dX2_makeFrom_209 : decode cX2_makeFrom 209 = .ok (.iload 8, 2) := by decide +kernel
theorem dX2_makeFrom_211 : decode cX2_makeFrom 211 = .ok (.iload 9, 2) := by decide +kernel
theorem dX2_makeFrom_213 : decode cX2_makeFrom 213 = .ok (.invokevirtual 67, 3) := by decide +kernel
theorem dX2_makeFrom_216 : decode cX2_makeFrom 216 = .ok (.ireturn, 1) := by decide +kernel
theorem dX2_knowing_0 : decode cX2_knowing 0 = .ok (.iload_n 1, 1) := by decide +kernel
theorem dX2_knowing_1 : decode cX2_knowing 1 = .ok (.iconst 2, 1) := by decide +kernel
theorem dX2_knowing_2 : decode cX2_knowing 2 = .ok (.if_icmp .lt 5, 3) := by decide +kernel
theorem dX2_knowing_5 : decode cX2_knowing 5 = .ok (.iload_n 0, 1) := by decide +kernel
theorem dX2_knowing_6 : decode cX2_knowing 6 = .ok (.ireturn, 1) := by decide +kernel
theorem dX2_knowing_7 : decode cX2_knowing 7 = .ok (.iload_n 1, 1) := by decide +kernel
theorem dX2_knowing_8 : decode cX2_knowing 8 = .ok (.iconst 1, 1) := by decide +kernel
theorem dX2_knowing_9 : decode cX2_knowing 9 = .ok (.if_icmp .ne 9, 3) := by decide +kernel
theorem dX2_knowing_12 : decode cX2_knowing 12 = .ok (.iload_n 0, 1) := by decide +kernel
theorem dX2_knowing_13 : decode cX2_knowing 13 = .ok (.iload_n 2, 1) := by decide +kernel
theorem dX2_knowing_14 : decode cX2_knowing 14 = .ok (.ishr, 1) := by decide +kernel
theorem dX2_knowing_15 : decode cX2_knowing 15 = .ok (.goto 4, 3) := by decide +kernel
theorem dX2_knowing_18 : decode cX2_knowing 18 = .ok (.iload_n 0, 1) := by decide +kernel
theorem dX2_knowing_19 : decode cX2_knowing 19 = .ok (.iload_n 3, 1) := by decide +kernel
theorem dX2_knowing_20 : decode cX2_knowing 20 = .ok (.iand, 1) := by decide +kernel
theorem dX2_knowing_21 : decode cX2_knowing 21 = .ok (.istore 4, 2) := by decide +kernel
theorem dX2_knowing_23 : decode cX2_knowing 23 = .ok (.iload 4, 2) := by decide +kernel
theorem dX2_knowing_25 : decode cX2_knowing 25 = .ok (.iload 4, 2) := by decide +kernel
theorem dX2_knowing_27 : decode cX2_knowing 27 = .ok (.iload_n 2, 1) := by decide +kernel
theorem dX2_knowing_28 : decode cX2_knowing 28 = .ok (.ishl, 1) := by decide +kernel
theorem dX2_knowing_29 : decode cX2_knowing 29 = .ok (.ior, 1) := by decide +kernel
theorem dX2_knowing_30 : decode cX2_knowing 30 = .ok (.ireturn, 1) := by decide +kernel
theorem dX2_lowAt_0 : decode cX2_lowAt 0 = .ok (.aload_n 0, 1) := by decide +kernel
theorem dX2_lowAt_1 : decode cX2_lowAt 1 = .ok (.getfield 11, 3) := by decide +kernel
theorem dX2_lowAt_4 : decode cX2_lowAt 4 = .ok (.iload_n 1, 1) := by decide +kernel
theorem dX2_lowAt_5 : decode cX2_lowAt 5 = .ok (.iaload, 1) := by decide +kernel
theorem dX2_lowAt_6 : decode cX2_lowAt 6 = .ok (.iload_n 2, 1) := by decide +kernel
theorem dX2_lowAt_7 : decode cX2_lowAt 7 = .ok (.if_icmp .ne 12, 3) := by decide +kernel
theorem dX2_lowAt_10 : decode cX2_lowAt 10 = .ok (.aload_n 0, 1) := by decide +kernel
theorem dX2_lowAt_11 : decode cX2_lowAt 11 = .ok (.getfield 15, 3) := by decide +kernel
theorem dX2_lowAt_14 : decode cX2_lowAt 14 = .ok (.iload_n 1, 1) := by decide +kernel
theorem dX2_lowAt_15 : decode cX2_lowAt 15 = .ok (.iaload, 1) := by decide +kernel
theorem dX2_lowAt_16 : decode cX2_lowAt 16 = .ok (.goto 4, 3) := by decide +kernel
theorem dX2_lowAt_19 : decode cX2_lowAt 19 = .ok (.iload_n 1, 1) := by decide +kernel
theorem dX2_lowAt_20 : decode cX2_lowAt 20 = .ok (.ireturn, 1) := by decide +kernel
theorem dX2_highAt_0 : decode cX2_highAt 0 = .ok (.aload_n 0, 1) := by decide +kernel
theorem dX2_highAt_1 : decode cX2_highAt 1 = .ok (.getfield 11, 3) := by decide +kernel
theorem dX2_highAt_4 : decode cX2_highAt 4 = .ok (.iload_n 1, 1) := by decide +kernel
theorem dX2_highAt_5 : decode cX2_highAt 5 = .ok (.iaload, 1) := by decide +kernel
theorem dX2_highAt_6 : decode cX2_highAt 6 = .ok (.iload_n 2, 1) := by decide +kernel
theorem dX2_highAt_7 : decode cX2_highAt 7 = .ok (.if_icmp .ne 12, 3) := by decide +kernel
theorem dX2_highAt_10 : decode cX2_highAt 10 = .ok (.aload_n 0, 1) := by decide +kernel
theorem dX2_highAt_11 : decode cX2_highAt 11 = .ok (.getfield 18, 3) := by decide +kernel
theorem dX2_highAt_14 : decode cX2_highAt 14 = .ok (.iload_n 1, 1) := by decide +kernel
theorem dX2_highAt_15 : decode cX2_highAt 15 = .ok (.iaload, 1) := by decide +kernel
theorem dX2_highAt_16 : decode cX2_highAt 16 = .ok (.goto 4, 3) := by decide +kernel
theorem dX2_highAt_19 : decode cX2_highAt 19 = .ok (.iload_n 1, 1) := by decide +kernel
theorem dX2_highAt_20 : decode cX2_highAt 20 = .ok (.ireturn, 1) := by decide +kernel
theorem dX2_makeFixed_0 : decode cX2_makeFixed 0 = .ok (.aload_n 0, 1) := by decide +kernel
theorem dX2_makeFixed_1 : decode cX2_makeFixed 1 = .ok (.iload_n 1, 1) := by decide +kernel
theorem dX2_makeFixed_2 : decode cX2_makeFixed 2 = .ok (.iload_n 2, 1) := by decide +kernel
theorem dX2_makeFixed_3 : decode cX2_makeFixed 3 = .ok (.iload_n 3, 1) := by decide +kernel
theorem dX2_makeFixed_4 : decode cX2_makeFixed 4 = .ok (.iconst 0, 1) := by decide +kernel
theorem dX2_makeFixed_5 : decode cX2_makeFixed 5 = .ok (.invokevirtual 91, 3) := by decide +kernel
theorem dX2_makeFixed_8 : decode cX2_makeFixed 8 = .ok (.ireturn, 1) := by decide +kernel
theorem dX2_fixFrom_0 : decode cX2_fixFrom 0 = .ok (.aload_n 0, 1) := by decide +kernel
theorem dX2_fixFrom_1 : decode cX2_fixFrom 1 = .ok (.getfield 11, 3) := by decide +kernel
theorem dX2_fixFrom_4 : decode cX2_fixFrom 4 = .ok (.iload_n 1, 1) := by decide +kernel
theorem dX2_fixFrom_5 : decode cX2_fixFrom 5 = .ok (.iaload, 1) := by decide +kernel
theorem dX2_fixFrom_6 : decode cX2_fixFrom 6 = .ok (.iload_n 2, 1) := by decide +kernel
theorem dX2_fixFrom_7 : decode cX2_fixFrom 7 = .ok (.if_icmp .le 5, 3) := by decide +kernel
theorem dX2_fixFrom_10 : decode cX2_fixFrom 10 = .ok (.iload_n 1, 1) := by decide +kernel
theorem dX2_fixFrom_11 : decode cX2_fixFrom 11 = .ok (.ireturn, 1) := by decide +kernel
theorem dX2_fixFrom_12 : decode cX2_fixFrom 12 = .ok (.aload_n 0, 1) := by decide +kernel
theorem dX2_fixFrom_13 : decode cX2_fixFrom 13 = .ok (.getfield 11, 3) := by decide +kernel
theorem dX2_fixFrom_16 : decode cX2_fixFrom 16 = .ok (.iload_n 1, 1) := by decide +kernel
theorem dX2_fixFrom_17 : decode cX2_fixFrom 17 = .ok (.iaload, 1) := by decide +kernel
theorem dX2_fixFrom_18 : decode cX2_fixFrom 18 = .ok (.iload_n 2, 1) := by decide +kernel
theorem dX2_fixFrom_19 : decode cX2_fixFrom 19 = .ok (.if_icmp .ne 23, 3) := by decide +kernel
theorem dX2_fixFrom_22 : decode cX2_fixFrom 22 = .ok (.iload_n 3, 1) := by decide +kernel
theorem dX2_fixFrom_23 : decode cX2_fixFrom 23 = .ok (.ifCond .eq 12, 3) := by decide +kernel
theorem dX2_fixFrom_26 : decode cX2_fixFrom 26 = .ok (.aload_n 0, 1) := by decide +kernel
theorem dX2_fixFrom_27 : decode cX2_fixFrom 27 = .ok (.getfield 18, 3) := by decide +kernel
theorem dX2_fixFrom_30 : decode cX2_fixFrom 30 = .ok (.iload_n 1, 1) := by decide +kernel
theorem dX2_fixFrom_31 : decode cX2_fixFrom 31 = .ok (.iaload, 1) := by decide +kernel
theorem dX2_fixFrom_32 : decode cX2_fixFrom 32 = .ok (.goto 9, 3) := by decide +kernel
theorem dX2_fixFrom_35 : decode cX2_fixFrom 35 = .ok (.aload_n 0, 1) := by decide +kernel
theorem dX2_fixFrom_36 : decode cX2_fixFrom 36 = .ok (.getfield 15, 3) := by decide +kernel
theorem dX2_fixFrom_39 : decode cX2_fixFrom 39 = .ok (.iload_n 1, 1) := by decide +kernel
theorem dX2_fixFrom_40 : decode cX2_fixFrom 40 = .ok (.iaload, 1) := by decide +kernel
theorem dX2_fixFrom_41 : decode cX2_fixFrom 41 = .ok (.ireturn, 1) := by decide +kernel
theorem dX2_fixFrom_42 : decode cX2_fixFrom 42 = .ok (.iload 4, 2) := by decide +kernel
theorem dX2_fixFrom_44 : decode cX2_fixFrom 44 = .ok (.bipush 8, 2) := by decide +kernel
theorem dX2_fixFrom_46 : decode cX2_fixFrom 46 = .ok (.if_icmp .lt 5, 3) := by decide +kernel
theorem dX2_fixFrom_49 : decode cX2_fixFrom 49 = .ok (.iconst (-1), 1) := by decide +kernel
theorem dX2_fixFrom_50 : decode cX2_fixFrom 50 = .ok (.ireturn, 1) := by decide +kernel
theorem dX2_fixFrom_51 : decode cX2_fixFrom 51 = .ok (.aload_n 0, 1) := by decide +kernel
theorem dX2_fixFrom_52 : decode cX2_fixFrom 52 = .ok (.aload_n 0, 1) := by decide +kernel
theorem dX2_fixFrom_53 : decode cX2_fixFrom 53 = .ok (.getfield 15, 3) := by decide +kernel
theorem dX2_fixFrom_56 : decode cX2_fixFrom 56 = .ok (.iload_n 1, 1) := by decide +kernel
theorem dX2_fixFrom_57 : decode cX2_fixFrom 57 = .ok (.iaload, 1) := by decide +kernel
theorem dX2_fixFrom_58 : decode cX2_fixFrom 58 = .ok (.iload_n 2, 1) := by decide +kernel
theorem dX2_fixFrom_59 : decode cX2_fixFrom 59 = .ok (.iload_n 3, 1) := by decide +kernel
theorem dX2_fixFrom_60 : decode cX2_fixFrom 60 = .ok (.iload 4, 2) := by decide +kernel
theorem dX2_fixFrom_62 : decode cX2_fixFrom 62 = .ok (.iconst 1, 1) := by decide +kernel
theorem dX2_fixFrom_63 : decode cX2_fixFrom 63 = .ok (.iadd, 1) := by decide +kernel
theorem dX2_fixFrom_64 : decode cX2_fixFrom 64 = .ok (.invokevirtual 91, 3) := by decide +kernel
theorem dX2_fixFrom_67 : decode cX2_fixFrom 67 = .ok (.istore 5, 2) := by decide +kernel
theorem dX2_fixFrom_69 : decode cX2_fixFrom 69 = .ok (.iload 5, 2) := by decide +kernel
theorem dX2_fixFrom_71 : decode cX2_fixFrom 71 = .ok (.iconst (-1), 1) := by decide +kernel
theorem dX2_fixFrom_72 : decode cX2_fixFrom 72 = .ok (.if_icmp .ne 5, 3) := by decide +kernel
theorem dX2_fixFrom_75 : decode cX2_fixFrom 75 = .ok (.iconst (-1), 1) := by decide +kernel
theorem dX2_fixFrom_76 : decode cX2_fixFrom 76 = .ok (.ireturn, 1) := by decide +kernel
theorem dX2_fixFrom_77 : decode cX2_fixFrom 77 = .ok (.aload_n 0, 1) := by decide +kernel
theorem dX2_fixFrom_78 : decode cX2_fixFrom 78 = .ok (.aload_n 0, 1) := by decide +kernel
theorem dX2_fixFrom_79 : decode cX2_fixFrom 79 = .ok (.getfield 18, 3) := by decide +kernel
theorem dX2_fixFrom_82 : decode cX2_fixFrom 82 = .ok (.iload_n 1, 1) := by decide +kernel
theorem dX2_fixFrom_83 : decode cX2_fixFrom 83 = .ok (.iaload, 1) := by decide +kernel
theorem dX2_fixFrom_84 : decode cX2_fixFrom 84 = .ok (.iload_n 2, 1) := by decide +kernel
theorem dX2_fixFrom_85 : decode cX2_fixFrom 85 = .ok (.iload_n 3, 1) := by decide +kernel
theorem dX2_fixFrom_86 : decode cX2_fixFrom 86 = .ok (.iload 4, 2) := by decide +kernel
theorem dX2_fixFrom_88 : decode cX2_fixFrom 88 = .ok (.iconst 1, 1) := by decide +kernel
theorem dX2_fixFrom_89 : decode cX2_fixFrom 89 = .ok (.iadd, 1) := by decide +kernel
theorem dX2_fixFrom_90 : decode cX2_fixFrom 90 = .ok (.invokevirtual 91, 3) := by decide +kernel
theorem dX2_fixFrom_93 : decode cX2_fixFrom 93 = .ok (.istore 6, 2) := by decide +kernel
theorem dX2_fixFrom_95 : decode cX2_fixFrom 95 = .ok (.aload_n 0, 1) := by decide +kernel
theorem dX2_fixFrom_96 : decode cX2_fixFrom 96 = .ok (.aload_n 0, 1) := by decide +kernel
theorem dX2_fixFrom_97 : decode cX2_fixFrom 97 = .ok (.getfield 11, 3) := by decide +kernel
theorem dX2_fixFrom_100 : decode cX2_fixFrom 100 = .ok (.iload_n 1, 1) := by decide +kernel
theorem dX2_fixFrom_101 : decode cX2_fixFrom 101 = .ok (.iaload, 1) := by decide +kernel
theorem dX2_fixFrom_102 : decode cX2_fixFrom 102 = .ok (.iload 5, 2) := by decide +kernel
theorem dX2_fixFrom_104 : decode cX2_fixFrom 104 = .ok (.iload 6, 2) := by decide +kernel
theorem dX2_fixFrom_106 : decode cX2_fixFrom 106 = .ok (.invokevirtual 67, 3) := by decide +kernel
theorem dX2_fixFrom_109 : decode cX2_fixFrom 109 = .ok (.ireturn, 1) := by decide +kernel
theorem dX2_nodeFor_0 : decode cX2_nodeFor 0 = .ok (.iload_n 3, 1) := by decide +kernel
theorem dX2_nodeFor_1 : decode cX2_nodeFor 1 = .ok (.iconst (-1), 1) := by decide +kernel
theorem dX2_nodeFor_2 : decode cX2_nodeFor 2 = .ok (.if_icmp .eq 8, 3) := by decide +kernel
theorem dX2_nodeFor_5 : decode cX2_nodeFor 5 = .ok (.iload_n 2, 1) := by decide +kernel
theorem dX2_nodeFor_6 : decode cX2_nodeFor 6 = .ok (.iload_n 3, 1) := by decide +kernel
theorem dX2_nodeFor_7 : decode cX2_nodeFor 7 = .ok (.if_icmp .ne 5, 3) := by decide +kernel
theorem dX2_nodeFor_10 : decode cX2_nodeFor 10 = .ok (.iload_n 3, 1) := by decide +kernel
theorem dX2_nodeFor_11 : decode cX2_nodeFor 11 = .ok (.ireturn, 1) := by decide +kernel
theorem dX2_nodeFor_12 : decode cX2_nodeFor 12 = .ok (.aload_n 0, 1) := by decide +kernel
theorem dX2_nodeFor_13 : decode cX2_nodeFor 13 = .ok (.getfield 27, 3) := by decide +kernel
theorem dX2_nodeFor_16 : decode cX2_nodeFor 16 = .ok (.iload_n 2, 1) := by decide +kernel
theorem dX2_nodeFor_17 : decode cX2_nodeFor 17 = .ok (.iload_n 3, 1) := by decide +kernel
theorem dX2_nodeFor_18 : decode cX2_nodeFor 18 = .ok (.ixor, 1) := by decide +kernel
theorem dX2_nodeFor_19 : decode cX2_nodeFor 19 = .ok (.iaload, 1) := by decide +kernel
theorem dX2_nodeFor_20 : decode cX2_nodeFor 20 = .ok (.istore 4, 2) := by decide +kernel
theorem dX2_nodeFor_22 : decode cX2_nodeFor 22 = .ok (.iconst 0, 1) := by decide +kernel
theorem dX2_nodeFor_23 : decode cX2_nodeFor 23 = .ok (.istore 5, 2) := by decide +kernel
theorem dX2_nodeFor_25 : decode cX2_nodeFor 25 = .ok (.iload 4, 2) := by decide +kernel
theorem dX2_nodeFor_27 : decode cX2_nodeFor 27 = .ok (.iconst (-1), 1) := by decide +kernel
theorem dX2_nodeFor_28 : decode cX2_nodeFor 28 = .ok (.if_icmp .eq 62, 3) := by decide +kernel
theorem dX2_nodeFor_31 : decode cX2_nodeFor 31 = .ok (.iload 5, 2) := by decide +kernel
theorem dX2_nodeFor_33 : decode cX2_nodeFor 33 = .ok (.sipush 252, 3) := by decide +kernel
theorem dX2_nodeFor_36 : decode cX2_nodeFor 36 = .ok (.if_icmp .ge 54, 3) := by decide +kernel
theorem dX2_nodeFor_39 : decode cX2_nodeFor 39 = .ok (.aload_n 0, 1) := by decide +kernel
theorem dX2_nodeFor_40 : decode cX2_nodeFor 40 = .ok (.getfield 11, 3) := by decide +kernel
theorem dX2_nodeFor_43 : decode cX2_nodeFor 43 = .ok (.iload 4, 2) := by decide +kernel
theorem dX2_nodeFor_45 : decode cX2_nodeFor 45 = .ok (.iaload, 1) := by decide +kernel
theorem dX2_nodeFor_46 : decode cX2_nodeFor 46 = .ok (.iload_n 1, 1) := by decide +kernel
theorem dX2_nodeFor_47 : decode cX2_nodeFor 47 = .ok (.if_icmp .ne 28, 3) := by decide +kernel
theorem dX2_nodeFor_50 : decode cX2_nodeFor 50 = .ok (.aload_n 0, 1) := by decide +kernel
theorem dX2_nodeFor_51 : decode cX2_nodeFor 51 = .ok (.getfield 15, 3) := by decide +kernel
theorem dX2_nodeFor_54 : decode cX2_nodeFor 54 = .ok (.iload 4, 2) := by decide +kernel
theorem dX2_nodeFor_56 : decode cX2_nodeFor 56 = .ok (.iaload, 1) := by decide +kernel
theorem dX2_nodeFor_57 : decode cX2_nodeFor 57 = .ok (.iload_n 2, 1) := by decide +kernel
theorem dX2_nodeFor_58 : decode cX2_nodeFor 58 = .ok (.if_icmp .ne 17, 3) := by decide +kernel
theorem dX2_nodeFor_61 : decode cX2_nodeFor 61 = .ok (.aload_n 0, 1) := by decide +kernel
theorem dX2_nodeFor_62 : decode cX2_nodeFor 62 = .ok (.getfield 18, 3) := by decide +kernel
theorem dX2_nodeFor_65 : decode cX2_nodeFor 65 = .ok (.iload 4, 2) := by decide +kernel
theorem dX2_nodeFor_67 : decode cX2_nodeFor 67 = .ok (.iaload, 1) := by decide +kernel
theorem dX2_nodeFor_68 : decode cX2_nodeFor 68 = .ok (.iload_n 3, 1) := by decide +kernel
theorem dX2_nodeFor_69 : decode cX2_nodeFor 69 = .ok (.if_icmp .ne 6, 3) := by decide +kernel
theorem dX2_nodeFor_72 : decode cX2_nodeFor 72 = .ok (.iload 4, 2) := by decide +kernel
theorem dX2_nodeFor_74 : decode cX2_nodeFor 74 = .ok (.ireturn, 1) := by decide +kernel
theorem dX2_nodeFor_75 : decode cX2_nodeFor 75 = .ok (.aload_n 0, 1) := by decide +kernel
theorem dX2_nodeFor_76 : decode cX2_nodeFor 76 = .ok (.getfield 24, 3) := by decide +kernel
theorem dX2_nodeFor_79 : decode cX2_nodeFor 79 = .ok (.iload 4, 2) := by decide +kernel
theorem dX2_nodeFor_81 : decode cX2_nodeFor 81 = .ok (.iaload, 1) := by decide +kernel
theorem dX2_nodeFor_82 : decode cX2_nodeFor 82 = .ok (.istore 4, 2) := by decide +kernel
theorem dX2_nodeFor_84 : decode cX2_nodeFor 84 = .ok (.iinc 5 1, 3) := by decide +kernel
theorem dX2_nodeFor_87 : decode cX2_nodeFor 87 = .ok (.goto (-62), 3) := by decide +kernel
theorem dX2_nodeFor_90 : decode cX2_nodeFor 90 = .ok (.aload_n 0, 1) := by decide +kernel
theorem dX2_nodeFor_91 : decode cX2_nodeFor 91 = .ok (.getfield 30, 3) := by decide +kernel
theorem dX2_nodeFor_94 : decode cX2_nodeFor 94 = .ok (.istore 4, 2) := by decide +kernel
theorem dX2_nodeFor_96 : decode cX2_nodeFor 96 = .ok (.aload_n 0, 1) := by decide +kernel
theorem dX2_nodeFor_97 : decode cX2_nodeFor 97 = .ok (.getfield 34, 3) := by decide +kernel
theorem dX2_nodeFor_100 : decode cX2_nodeFor 100 = .ok (.aload_n 0, 1) := by decide +kernel
theorem dX2_nodeFor_101 : decode cX2_nodeFor 101 = .ok (.getfield 37, 3) := by decide +kernel
theorem dX2_nodeFor_104 : decode cX2_nodeFor 104 = .ok (.if_icmp .ge 9, 3) := by decide +kernel
theorem dX2_nodeFor_107 : decode cX2_nodeFor 107 = .ok (.iload 4, 2) := by decide +kernel
theorem dX2_nodeFor_109 : decode cX2_nodeFor 109 = .ok (.iconst (-1), 1) := by decide +kernel
theorem dX2_nodeFor_110 : decode cX2_nodeFor 110 = .ok (.if_icmp .ne 5, 3) := by decide +kernel
theorem dX2_nodeFor_113 : decode cX2_nodeFor 113 = .ok (.iconst (-1), 1) := by decide +kernel
theorem dX2_nodeFor_114 : decode cX2_nodeFor 114 = .ok (.ireturn, 1) := by decide +kernel
theorem dX2_nodeFor_115 : decode cX2_nodeFor 115 = .ok (.aload_n 0, 1) := by decide +kernel
theorem dX2_nodeFor_116 : decode cX2_nodeFor 116 = .ok (.aload_n 0, 1) := by decide +kernel
theorem dX2_nodeFor_117 : decode cX2_nodeFor 117 = .ok (.getfield 24, 3) := by decide +kernel
theorem dX2_nodeFor_120 : decode cX2_nodeFor 120 = .ok (.iload 4, 2) := by decide +kernel
theorem dX2_nodeFor_122 : decode cX2_nodeFor 122 = .ok (.iaload, 1) := by decide +kernel
theorem dX2_nodeFor_123 : decode cX2_nodeFor 123 = .ok (.putfield 30, 3) := by decide +kernel
theorem dX2_nodeFor_126 : decode cX2_nodeFor 126 = .ok (.aload_n 0, 1) := by decide +kernel
theorem dX2_nodeFor_127 : decode cX2_nodeFor 127 = .ok (.getfield 11, 3) := by decide +kernel
theorem dX2_nodeFor_130 : decode cX2_nodeFor 130 = .ok (.iload 4, 2) := by decide +kernel
theorem dX2_nodeFor_132 : decode cX2_nodeFor 132 = .ok (.iload_n 1, 1) := by decide +kernel
theorem dX2_nodeFor_133 : decode cX2_nodeFor 133 = .ok (.iastore, 1) := by decide +kernel
theorem dX2_nodeFor_134 : decode cX2_nodeFor 134 = .ok (.aload_n 0, 1) := by decide +kernel
theorem dX2_nodeFor_135 : decode cX2_nodeFor 135 = .ok (.getfield 15, 3) := by decide +kernel
theorem dX2_nodeFor_138 : decode cX2_nodeFor 138 = .ok (.iload 4, 2) := by decide +kernel
theorem dX2_nodeFor_140 : decode cX2_nodeFor 140 = .ok (.iload_n 2, 1) := by decide +kernel
theorem dX2_nodeFor_141 : decode cX2_nodeFor 141 = .ok (.iastore, 1) := by decide +kernel
theorem dX2_nodeFor_142 : decode cX2_nodeFor 142 = .ok (.aload_n 0, 1) := by decide +kernel
theorem dX2_nodeFor_143 : decode cX2_nodeFor 143 = .ok (.getfield 18, 3) := by decide +kernel
theorem dX2_nodeFor_146 : decode cX2_nodeFor 146 = .ok (.iload 4, 2) := by decide +kernel
theorem dX2_nodeFor_148 : decode cX2_nodeFor 148 = .ok (.iload_n 3, 1) := by decide +kernel
theorem dX2_nodeFor_149 : decode cX2_nodeFor 149 = .ok (.iastore, 1) := by decide +kernel
theorem dX2_nodeFor_150 : decode cX2_nodeFor 150 = .ok (.aload_n 0, 1) := by decide +kernel
theorem dX2_nodeFor_151 : decode cX2_nodeFor 151 = .ok (.iload 4, 2) := by decide +kernel
theorem dX2_nodeFor_153 : decode cX2_nodeFor 153 = .ok (.invokevirtual 64, 3) := by decide +kernel
theorem dX2_nodeFor_156 : decode cX2_nodeFor 156 = .ok (.iload 4, 2) := by decide +kernel
theorem dX2_nodeFor_158 : decode cX2_nodeFor 158 = .ok (.ireturn, 1) := by decide +kernel
theorem dX2_enter_0 : decode cX2_enter 0 = .ok (.aload_n 0, 1) := by decide +kernel
theorem dX2_enter_1 : decode cX2_enter 1 = .ok (.getfield 15, 3) := by decide +kernel
theorem dX2_enter_4 : decode cX2_enter 4 = .ok (.iload_n 1, 1) := by decide +kernel
theorem dX2_enter_5 : decode cX2_enter 5 = .ok (.iaload, 1) := by decide +kernel
theorem dX2_enter_6 : decode cX2_enter 6 = .ok (.aload_n 0, 1) := by decide +kernel
theorem dX2_enter_7 : decode cX2_enter 7 = .ok (.getfield 18, 3) := by decide +kernel
theorem dX2_enter_10 : decode cX2_enter 10 = .ok (.iload_n 1, 1) := by decide +kernel
theorem dX2_enter_11 : decode cX2_enter 11 = .ok (.iaload, 1) := by decide +kernel
theorem dX2_enter_12 : decode cX2_enter 12 = .ok (.ixor, 1) := by decide +kernel
theorem dX2_enter_13 : decode cX2_enter 13 = .ok (.istore_n 2, 1) := by decide +kernel
theorem dX2_enter_14 : decode cX2_enter 14 = .ok (.aload_n 0, 1) := by decide +kernel
theorem dX2_enter_15 : decode cX2_enter 15 = .ok (.getfield 24, 3) := by decide +kernel
theorem dX2_enter_18 : decode cX2_enter 18 = .ok (.iload_n 1, 1) := by decide +kernel
theorem dX2_enter_19 : decode cX2_enter 19 = .ok (.aload_n 0, 1) := by decide +kernel
theorem dX2_enter_20 : decode cX2_enter 20 = .ok (.getfield 27, 3) := by decide +kernel
theorem dX2_enter_23 : decode cX2_enter 23 = .ok (.iload_n 2, 1) := by decide +kernel
theorem dX2_enter_24 : decode cX2_enter 24 = .ok (.iaload, 1) := by decide +kernel
theorem dX2_enter_25 : decode cX2_enter 25 = .ok (.iastore, 1) := by decide +kernel
theorem dX2_enter_26 : decode cX2_enter 26 = .ok (.aload_n 0, 1) := by decide +kernel
theorem dX2_enter_27 : decode cX2_enter 27 = .ok (.getfield 27, 3) := by decide +kernel
theorem dX2_enter_30 : decode cX2_enter 30 = .ok (.iload_n 2, 1) := by decide +kernel
theorem dX2_enter_31 : decode cX2_enter 31 = .ok (.iload_n 1, 1) := by decide +kernel
theorem dX2_enter_32 : decode cX2_enter 32 = .ok (.iastore, 1) := by decide +kernel
theorem dX2_enter_33 : decode cX2_enter 33 = .ok (.aload_n 0, 1) := by decide +kernel
theorem dX2_enter_34 : decode cX2_enter 34 = .ok (.dup, 1) := by decide +kernel
theorem dX2_enter_35 : decode cX2_enter 35 = .ok (.getfield 34, 3) := by decide +kernel
theorem dX2_enter_38 : decode cX2_enter 38 = .ok (.iconst 1, 1) := by decide +kernel
theorem dX2_enter_39 : decode cX2_enter 39 = .ok (.iadd, 1) := by decide +kernel
theorem dX2_enter_40 : decode cX2_enter 40 = .ok (.putfield 34, 3) := by decide +kernel
theorem dX2_enter_43 : decode cX2_enter 43 = .ok (.return_, 1) := by decide +kernel
theorem dX2_valueFor_0 : decode cX2_valueFor 0 = .ok (.iload_n 1, 1) := by decide +kernel
theorem dX2_valueFor_1 : decode cX2_valueFor 1 = .ok (.istore 4, 2) := by decide +kernel
theorem dX2_valueFor_3 : decode cX2_valueFor 3 = .ok (.iconst 0, 1) := by decide +kernel
theorem dX2_valueFor_4 : decode cX2_valueFor 4 = .ok (.istore 5, 2) := by decide +kernel
theorem dX2_valueFor_6 : decode cX2_valueFor 6 = .ok (.iload 5, 2) := by decide +kernel
theorem dX2_valueFor_8 : decode cX2_valueFor 8 = .ok (.bipush 8, 2) := by decide +kernel
theorem dX2_valueFor_10 : decode cX2_valueFor 10 = .ok (.if_icmp .ge 65, 3) := by decide +kernel
theorem dX2_valueFor_13 : decode cX2_valueFor 13 = .ok (.iload 4, 2) := by decide +kernel
theorem dX2_valueFor_15 : decode cX2_valueFor 15 = .ok (.iconst 2, 1) := by decide +kernel
theorem dX2_valueFor_16 : decode cX2_valueFor 16 = .ok (.if_icmp .lt 59, 3) := by decide +kernel
theorem dX2_valueFor_19 : decode cX2_valueFor 19 = .ok (.iload_n 2, 1) := by decide +kernel
theorem dX2_valueFor_20 : decode cX2_valueFor 20 = .ok (.aload_n 3, 1) := by decide +kernel
theorem dX2_valueFor_21 : decode cX2_valueFor 21 = .ok (.aload_n 0, 1) := by decide +kernel
theorem dX2_valueFor_22 : decode cX2_valueFor 22 = .ok (.getfield 11, 3) := by decide +kernel
theorem dX2_valueFor_25 : decode cX2_valueFor 25 = .ok (.iload 4, 2) := by decide +kernel
theorem dX2_valueFor_27 : decode cX2_valueFor 27 = .ok (.iaload, 1) := by decide +kernel
theorem dX2_valueFor_28 : decode cX2_valueFor 28 = .ok (.invokevirtual 95, 3) := by decide +kernel
theorem dX2_valueFor_31 : decode cX2_valueFor 31 = .ok (.ishr, 1) := by decide +kernel
theorem dX2_valueFor_32 : decode cX2_valueFor 32 = .ok (.iconst 1, 1) := by decide +kernel
theorem dX2_valueFor_33 : decode cX2_valueFor 33 = .ok (.iand, 1) := by decide +kernel
theorem dX2_valueFor_34 : decode cX2_valueFor 34 = .ok (.iconst 1, 1) := by decide +kernel
theorem dX2_valueFor_35 : decode cX2_valueFor 35 = .ok (.if_icmp .ne 7, 3) := by decide +kernel
theorem dX2_valueFor_38 : decode cX2_valueFor 38 = .ok (.iconst 1, 1) := by decide +kernel
theorem dX2_valueFor_39 : decode cX2_valueFor 39 = .ok (.goto 4, 3) := by decide +kernel
theorem dX2_valueFor_42 : decode cX2_valueFor 42 = .ok (.iconst 0, 1) := by decide +kernel
theorem dX2_valueFor_43 : decode cX2_valueFor 43 = .ok (.istore 6, 2) := by decide +kernel
theorem dX2_valueFor_45 : decode cX2_valueFor 45 = .ok (.iload 6, 2) := by decide +kernel
theorem dX2_valueFor_47 : decode cX2_valueFor 47 = .ok (.ifCond .eq 13, 3) := by decide +kernel
theorem dX2_valueFor_50 : decode cX2_valueFor 50 = .ok (.aload_n 0, 1) := by decide +kernel
theorem dX2_valueFor_51 : decode cX2_valueFor 51 = .ok (.getfield 18, 3) := by decide +kernel
theorem dX2_valueFor_54 : decode cX2_valueFor 54 = .ok (.iload 4, 2) := by decide +kernel
theorem dX2_valueFor_56 : decode cX2_valueFor 56 = .ok (.iaload, 1) := by decide +kernel
theorem dX2_valueFor_57 : decode cX2_valueFor 57 = .ok (.goto 10, 3) := by decide +kernel
theorem dX2_valueFor_60 : decode cX2_valueFor 60 = .ok (.aload_n 0, 1) := by decide +kernel
theorem dX2_valueFor_61 : decode cX2_valueFor 61 = .ok (.getfield 15, 3) := by decide +kernel
theorem dX2_valueFor_64 : decode cX2_valueFor 64 = .ok (.iload 4, 2) := by decide +kernel
theorem dX2_valueFor_66 : decode cX2_valueFor 66 = .ok (.iaload, 1) := by decide +kernel
theorem dX2_valueFor_67 : decode cX2_valueFor 67 = .ok (.istore 4, 2) := by decide +kernel
theorem dX2_valueFor_69 : decode cX2_valueFor 69 = .ok (.iinc 5 1, 3) := by decide +kernel
theorem dX2_valueFor_72 : decode cX2_valueFor 72 = .ok (.goto (-66), 3) := by decide +kernel
theorem dX2_valueFor_75 : decode cX2_valueFor 75 = .ok (.iload 4, 2) := by decide +kernel
theorem dX2_valueFor_77 : decode cX2_valueFor 77 = .ok (.iconst 1, 1) := by decide +kernel
theorem dX2_valueFor_78 : decode cX2_valueFor 78 = .ok (.if_icmp .ne 7, 3) := by decide +kernel
theorem dX2_valueFor_81 : decode cX2_valueFor 81 = .ok (.iconst 1, 1) := by decide +kernel
theorem dX2_valueFor_82 : decode cX2_valueFor 82 = .ok (.goto 4, 3) := by decide +kernel
theorem dX2_valueFor_85 : decode cX2_valueFor 85 = .ok (.iconst 0, 1) := by decide +kernel
theorem dX2_valueFor_86 : decode cX2_valueFor 86 = .ok (.ireturn, 1) := by decide +kernel
theorem dX2_leastFor_0 : decode cX2_leastFor 0 = .ok (.iload_n 1, 1) := by decide +kernel
theorem dX2_leastFor_1 : decode cX2_leastFor 1 = .ok (.istore 4, 2) := by decide +kernel
theorem dX2_leastFor_3 : decode cX2_leastFor 3 = .ok (.iconst 0, 1) := by decide +kernel
theorem dX2_leastFor_4 : decode cX2_leastFor 4 = .ok (.istore 5, 2) := by decide +kernel
theorem dX2_leastFor_6 : decode cX2_leastFor 6 = .ok (.iconst 0, 1) := by decide +kernel
theorem dX2_leastFor_7 : decode cX2_leastFor 7 = .ok (.istore 6, 2) := by decide +kernel
theorem dX2_leastFor_9 : decode cX2_leastFor 9 = .ok (.iload 6, 2) := by decide +kernel
theorem dX2_leastFor_11 : decode cX2_leastFor 11 = .ok (.bipush 8, 2) := by decide +kernel
theorem dX2_leastFor_13 : decode cX2_leastFor 13 = .ok (.if_icmp .ge 76, 3) := by decide +kernel
theorem dX2_leastFor_16 : decode cX2_leastFor 16 = .ok (.iload 4, 2) := by decide +kernel
theorem dX2_leastFor_18 : decode cX2_leastFor 18 = .ok (.iconst 2, 1) := by decide +kernel
theorem dX2_leastFor_19 : decode cX2_leastFor 19 = .ok (.if_icmp .lt 70, 3) := by decide +kernel
theorem dX2_leastFor_22 : decode cX2_leastFor 22 = .ok (.aload_n 0, 1) := by decide +kernel
theorem dX2_leastFor_23 : decode cX2_leastFor 23 = .ok (.getfield 15, 3) := by decide +kernel
theorem dX2_leastFor_26 : decode cX2_leastFor 26 = .ok (.iload 4, 2) := by decide +kernel
theorem dX2_leastFor_28 : decode cX2_leastFor 28 = .ok (.iaload, 1) := by decide +kernel
theorem dX2_leastFor_29 : decode cX2_leastFor 29 = .ok (.iconst 2, 1) := by decide +kernel
theorem dX2_leastFor_30 : decode cX2_leastFor 30 = .ok (.if_icmp .ge 14, 3) := by decide +kernel
theorem dX2_leastFor_33 : decode cX2_leastFor 33 = .ok (.aload_n 0, 1) := by decide +kernel
theorem dX2_leastFor_34 : decode cX2_leastFor 34 = .ok (.getfield 15, 3) := by decide +kernel
theorem dX2_leastFor_37 : decode cX2_leastFor 37 = .ok (.iload 4, 2) := by decide +kernel
theorem dX2_leastFor_39 : decode cX2_leastFor 39 = .ok (.iaload, 1) := by decide +kernel
theorem dX2_leastFor_40 : decode cX2_leastFor 40 = .ok (.iload_n 2, 1) := by decide +kernel
theorem dX2_leastFor_41 : decode cX2_leastFor 41 = .ok (.if_icmp .ne 15, 3) := by decide +kernel
theorem dX2_leastFor_44 : decode cX2_leastFor 44 = .ok (.aload_n 0, 1) := by decide +kernel
theorem dX2_leastFor_45 : decode cX2_leastFor 45 = .ok (.getfield 15, 3) := by decide +kernel
theorem dX2_leastFor_48 : decode cX2_leastFor 48 = .ok (.iload 4, 2) := by decide +kernel
theorem dX2_leastFor_50 : decode cX2_leastFor 50 = .ok (.iaload, 1) := by decide +kernel
theorem dX2_leastFor_51 : decode cX2_leastFor 51 = .ok (.istore 4, 2) := by decide +kernel
theorem dX2_leastFor_53 : decode cX2_leastFor 53 = .ok (.goto 30, 3) := by decide +kernel
theorem dX2_leastFor_56 : decode cX2_leastFor 56 = .ok (.iload 5, 2) := by decide +kernel
theorem dX2_leastFor_58 : decode cX2_leastFor 58 = .ok (.iconst 1, 1) := by decide +kernel
theorem dX2_leastFor_59 : decode cX2_leastFor 59 = .ok (.aload_n 3, 1) := by decide +kernel
theorem dX2_leastFor_60 : decode cX2_leastFor 60 = .ok (.aload_n 0, 1) := by decide +kernel
theorem dX2_leastFor_61 : decode cX2_leastFor 61 = .ok (.getfield 11, 3) := by decide +kernel
theorem dX2_leastFor_64 : decode cX2_leastFor 64 = .ok (.iload 4, 2) := by decide +kernel
theorem dX2_leastFor_66 : decode cX2_leastFor 66 = .ok (.iaload, 1) := by decide +kernel
theorem dX2_leastFor_67 : decode cX2_leastFor 67 = .ok (.invokevirtual 95, 3) := by decide +kernel
theorem dX2_leastFor_70 : decode cX2_leastFor 70 = .ok (.ishl, 1) := by decide +kernel
theorem dX2_leastFor_71 : decode cX2_leastFor 71 = .ok (.ior, 1) := by decide +kernel
theorem dX2_leastFor_72 : decode cX2_leastFor 72 = .ok (.istore 5, 2) := by decide +kernel
theorem dX2_leastFor_74 : decode cX2_leastFor 74 = .ok (.aload_n 0, 1) := by decide +kernel
theorem dX2_leastFor_75 : decode cX2_leastFor 75 = .ok (.getfield 18, 3) := by decide +kernel
theorem dX2_leastFor_78 : decode cX2_leastFor 78 = .ok (.iload 4, 2) := by decide +kernel
theorem dX2_leastFor_80 : decode cX2_leastFor 80 = .ok (.iaload, 1) := by decide +kernel
theorem dX2_leastFor_81 : decode cX2_leastFor 81 = .ok (.istore 4, 2) := by decide +kernel
theorem dX2_leastFor_83 : decode cX2_leastFor 83 = .ok (.iinc 6 1, 3) := by decide +kernel
theorem dX2_leastFor_86 : decode cX2_leastFor 86 = .ok (.goto (-77), 3) := by decide +kernel
theorem dX2_leastFor_89 : decode cX2_leastFor 89 = .ok (.iload 4, 2) := by decide +kernel
theorem dX2_leastFor_91 : decode cX2_leastFor 91 = .ok (.iload_n 2, 1) := by decide +kernel
theorem dX2_leastFor_92 : decode cX2_leastFor 92 = .ok (.if_icmp .ne 8, 3) := by decide +kernel
theorem dX2_leastFor_95 : decode cX2_leastFor 95 = .ok (.iload 5, 2) := by decide +kernel
theorem dX2_leastFor_97 : decode cX2_leastFor 97 = .ok (.goto 5, 3) := by decide +kernel
theorem dX2_leastFor_100 : decode cX2_leastFor 100 = .ok (.bipush (-9), 2) := by decide +kernel
theorem dX2_leastFor_102 : decode cX2_leastFor 102 = .ok (.ireturn, 1) := by decide +kernel
theorem dX2_pathCount_0 : decode cX2_pathCount 0 = .ok (.aload_n 0, 1) := by decide +kernel
theorem dX2_pathCount_1 : decode cX2_pathCount 1 = .ok (.iload_n 1, 1) := by decide +kernel
theorem dX2_pathCount_2 : decode cX2_pathCount 2 = .ok (.iload_n 2, 1) := by decide +kernel
theorem dX2_pathCount_3 : decode cX2_pathCount 3 = .ok (.iconst 0, 1) := by decide +kernel
theorem dX2_pathCount_4 : decode cX2_pathCount 4 = .ok (.invokevirtual 100, 3) := by decide +kernel
theorem dX2_pathCount_7 : decode cX2_pathCount 7 = .ok (.ireturn, 1) := by decide +kernel
theorem dX2_pathsFrom_0 : decode cX2_pathsFrom 0 = .ok (.iload_n 1, 1) := by decide +kernel
theorem dX2_pathsFrom_1 : decode cX2_pathsFrom 1 = .ok (.iconst 2, 1) := by decide +kernel
theorem dX2_pathsFrom_2 : decode cX2_pathsFrom 2 = .ok (.if_icmp .lt 9, 3) := by decide +kernel
theorem dX2_pathsFrom_5 : decode cX2_pathsFrom 5 = .ok (.iload_n 3, 1) := by decide +kernel
theorem dX2_pathsFrom_6 : decode cX2_pathsFrom 6 = .ok (.bipush 8, 2) := by decide +kernel
theorem dX2_pathsFrom_8 : decode cX2_pathsFrom 8 = .ok (.if_icmp .lt 14, 3) := by decide +kernel
theorem dX2_pathsFrom_11 : decode cX2_pathsFrom 11 = .ok (.iload_n 1, 1) := by decide +kernel
theorem dX2_pathsFrom_12 : decode cX2_pathsFrom 12 = .ok (.iload_n 2, 1) := by decide +kernel
theorem dX2_pathsFrom_13 : decode cX2_pathsFrom 13 = .ok (.if_icmp .ne 7, 3) := by decide +kernel
theorem dX2_pathsFrom_16 : decode cX2_pathsFrom 16 = .ok (.iconst 1, 1) := by decide +kernel
theorem dX2_pathsFrom_17 : decode cX2_pathsFrom 17 = .ok (.goto 4, 3) := by decide +kernel
theorem dX2_pathsFrom_20 : decode cX2_pathsFrom 20 = .ok (.iconst 0, 1) := by decide +kernel
theorem dX2_pathsFrom_21 : decode cX2_pathsFrom 21 = .ok (.ireturn, 1) := by decide +kernel
theorem dX2_pathsFrom_22 : decode cX2_pathsFrom 22 = .ok (.aload_n 0, 1) := by decide +kernel
theorem dX2_pathsFrom_23 : decode cX2_pathsFrom 23 = .ok (.aload_n 0, 1) := by decide +kernel
theorem dX2_pathsFrom_24 : decode cX2_pathsFrom 24 = .ok (.getfield 15, 3) := by decide +kernel
theorem dX2_pathsFrom_27 : decode cX2_pathsFrom 27 = .ok (.iload_n 1, 1) := by decide +kernel
theorem dX2_pathsFrom_28 : decode cX2_pathsFrom 28 = .ok (.iaload, 1) := by decide +kernel
theorem dX2_pathsFrom_29 : decode cX2_pathsFrom 29 = .ok (.iload_n 2, 1) := by decide +kernel
theorem dX2_pathsFrom_30 : decode cX2_pathsFrom 30 = .ok (.iload_n 3, 1) := by decide +kernel
theorem dX2_pathsFrom_31 : decode cX2_pathsFrom 31 = .ok (.iconst 1, 1) := by decide +kernel
theorem dX2_pathsFrom_32 : decode cX2_pathsFrom 32 = .ok (.iadd, 1) := by decide +kernel
theorem dX2_pathsFrom_33 : decode cX2_pathsFrom 33 = .ok (.invokevirtual 100, 3) := by decide +kernel
theorem dX2_pathsFrom_36 : decode cX2_pathsFrom 36 = .ok (.aload_n 0, 1) := by decide +kernel
theorem dX2_pathsFrom_37 : decode cX2_pathsFrom 37 = .ok (.aload_n 0, 1) := by decide +kernel
theorem dX2_pathsFrom_38 : decode cX2_pathsFrom 38 = .ok (.getfield 18, 3) := by decide +kernel
theorem dX2_pathsFrom_41 : decode cX2_pathsFrom 41 = .ok (.iload_n 1, 1) := by decide +kernel
theorem dX2_pathsFrom_42 : decode cX2_pathsFrom 42 = .ok (.iaload, 1) := by decide +kernel
theorem dX2_pathsFrom_43 : decode cX2_pathsFrom 43 = .ok (.iload_n 2, 1) := by decide +kernel
theorem dX2_pathsFrom_44 : decode cX2_pathsFrom 44 = .ok (.iload_n 3, 1) := by decide +kernel
theorem dX2_pathsFrom_45 : decode cX2_pathsFrom 45 = .ok (.iconst 1, 1) := by decide +kernel
theorem dX2_pathsFrom_46 : decode cX2_pathsFrom 46 = .ok (.iadd, 1) := by decide +kernel
theorem dX2_pathsFrom_47 : decode cX2_pathsFrom 47 = .ok (.invokevirtual 100, 3) := by decide +kernel
theorem dX2_pathsFrom_50 : decode cX2_pathsFrom 50 = .ok (.iadd, 1) := by decide +kernel
theorem dX2_pathsFrom_51 : decode cX2_pathsFrom 51 = .ok (.ireturn, 1) := by decide +kernel
theorem dJ7_fill_53178_0 : decode cJ7_fill_53178 0 = .ok (.iconst 0, 1) := by decide +kernel
theorem dJ7_fill_53178_1 : decode cJ7_fill_53178 1 = .ok (.istore_n 2, 1) := by decide +kernel
theorem dJ7_fill_53178_2 : decode cJ7_fill_53178 2 = .ok (.aload_n 0, 1) := by decide +kernel
theorem dJ7_fill_53178_3 : decode cJ7_fill_53178 3 = .ok (.arraylength, 1) := by decide +kernel
theorem dJ7_fill_53178_4 : decode cJ7_fill_53178 4 = .ok (.istore_n 3, 1) := by decide +kernel
theorem dJ7_fill_53178_5 : decode cJ7_fill_53178 5 = .ok (.iload_n 2, 1) := by decide +kernel
theorem dJ7_fill_53178_6 : decode cJ7_fill_53178 6 = .ok (.iload_n 3, 1) := by decide +kernel
theorem dJ7_fill_53178_7 : decode cJ7_fill_53178 7 = .ok (.if_icmp .ge 13, 3) := by decide +kernel
theorem dJ7_fill_53178_10 : decode cJ7_fill_53178 10 = .ok (.aload_n 0, 1) := by decide +kernel
theorem dJ7_fill_53178_11 : decode cJ7_fill_53178 11 = .ok (.iload_n 2, 1) := by decide +kernel
theorem dJ7_fill_53178_12 : decode cJ7_fill_53178 12 = .ok (.iload_n 1, 1) := by decide +kernel
theorem dJ7_fill_53178_13 : decode cJ7_fill_53178 13 = .ok (.iastore, 1) := by decide +kernel
theorem dJ7_fill_53178_14 : decode cJ7_fill_53178 14 = .ok (.iinc 2 1, 3) := by decide +kernel
theorem dJ7_fill_53178_17 : decode cJ7_fill_53178 17 = .ok (.goto (-12), 3) := by decide +kernel
theorem dJ7_fill_53178_20 : decode cJ7_fill_53178 20 = .ok (.return_, 1) := by decide +kernel
end
section
theorem dX3_init_0 : decode cX3_init 0 = .ok (.aload_n 0, 1) := by decide +kernel
theorem dX3_init_1 : decode cX3_init 1 = .ok (.invokespecial 3, 3) := by decide +kernel
theorem dX3_init_4 : decode cX3_init 4 = .ok (.aload_n 0, 1) := by decide +kernel
theorem dX3_init_5 : decode cX3_init 5 = .ok (.iconst 3, 1) := by decide +kernel
theorem dX3_init_6 : decode cX3_init 6 = .ok (.anewarray 9, 3) := by decide +kernel
theorem dX3_init_9 : decode cX3_init 9 = .ok (.putfield 11, 3) := by decide +kernel
theorem dX3_init_12 : decode cX3_init 12 = .ok (.aload_n 0, 1) := by decide +kernel
theorem dX3_init_13 : decode cX3_init 13 = .ok (.new 15, 3) := by decide +kernel
theorem dX3_init_16 : decode cX3_init 16 = .ok (.dup, 1) := by decide +kernel
theorem dX3_init_17 : decode cX3_init 17 = .ok (.invokespecial 17, 3) := by decide +kernel
theorem dX3_init_20 : decode cX3_init 20 = .ok (.putfield 18, 3) := by decide +kernel
theorem dX3_init_23 : decode cX3_init 23 = .ok (.aload_n 0, 1) := by decide +kernel
theorem dX3_init_24 : decode cX3_init 24 = .ok (.new 22, 3) := by decide +kernel
theorem dX3_init_27 : decode cX3_init 27 = .ok (.dup, 1) := by decide +kernel
theorem dX3_init_28 : decode cX3_init 28 = .ok (.invokespecial 24, 3) := by decide +kernel
theorem dX3_init_31 : decode cX3_init 31 = .ok (.putfield 25, 3) := by decide +kernel
theorem dX3_init_34 : decode cX3_init 34 = .ok (.aload_n 0, 1) := by decide +kernel
theorem dX3_init_35 : decode cX3_init 35 = .ok (.bipush 12, 2) := by decide +kernel
theorem dX3_init_37 : decode cX3_init 37 = .ok (.newarray .int, 2) := by decide +kernel
theorem dX3_init_39 : decode cX3_init 39 = .ok (.putfield 29, 3) := by decide +kernel
theorem dX3_init_42 : decode cX3_init 42 = .ok (.aload_n 0, 1) := by decide +kernel
theorem dX3_init_43 : decode cX3_init 43 = .ok (.bipush 40, 2) := by decide +kernel
theorem dX3_init_45 : decode cX3_init 45 = .ok (.newarray .int, 2) := by decide +kernel
theorem dX3_init_47 : decode cX3_init 47 = .ok (.putfield 33, 3) := by decide +kernel
theorem dX3_init_50 : decode cX3_init 50 = .ok (.aload_n 0, 1) := by decide +kernel
theorem dX3_init_51 : decode cX3_init 51 = .ok (.bipush 40, 2) := by decide +kernel
theorem dX3_init_53 : decode cX3_init 53 = .ok (.newarray .int, 2) := by decide +kernel
theorem dX3_init_55 : decode cX3_init 55 = .ok (.putfield 36, 3) := by decide +kernel
theorem dX3_init_58 : decode cX3_init 58 = .ok (.aload_n 0, 1) := by decide +kernel
theorem dX3_init_59 : decode cX3_init 59 = .ok (.bipush 8, 2) := by decide +kernel
theorem dX3_init_61 : decode cX3_init 61 = .ok (.newarray .int, 2) := by decide +kernel
theorem dX3_init_63 : decode cX3_init 63 = .ok (.putfield 39, 3) := by decide +kernel
theorem dX3_init_66 : decode cX3_init 66 = .ok (.aload_n 0, 1) := by decide +kernel
theorem dX3_init_67 : decode cX3_init 67 = .ok (.iconst 0, 1) := by decide +kernel
theorem dX3_init_68 : decode cX3_init 68 = .ok (.putfield 42, 3) := by decide +kernel
theorem dX3_init_71 : decode cX3_init 71 = .ok (.aload_n 0, 1) := by decide +kernel
theorem dX3_init_72 : decode cX3_init 72 = .ok (.iconst 0, 1) := by decide +kernel
theorem dX3_init_73 : decode cX3_init 73 = .ok (.putfield 46, 3) := by decide +kernel
theorem dX3_init_76 : decode cX3_init 76 = .ok (.aload_n 0, 1) := by decide +kernel
theorem dX3_init_77 : decode cX3_init 77 = .ok (.bipush (-9), 2) := by decide +kernel
theorem dX3_init_79 : decode cX3_init 79 = .ok (.putfield 49, 3) := by decide +kernel
theorem dX3_init_82 : decode cX3_init 82 = .ok (.aload_n 0, 1) := by decide +kernel
theorem dX3_init_83 : decode cX3_init 83 = .ok (.bipush (-9), 2) := by decide +kernel
theorem dX3_init_85 : decode cX3_init 85 = .ok (.putfield 52, 3) := by decide +kernel
theorem dX3_init_88 : decode cX3_init 88 = .ok (.iconst 0, 1) := by decide +kernel
theorem dX3_init_89 : decode cX3_init 89 = .ok (.istore_n 1, 1) := by decide +kernel
theorem dX3_init_90 : decode cX3_init 90 = .ok (.iload_n 1, 1) := by decide +kernel
theorem dX3_init_91 : decode cX3_init 91 = .ok (.iconst 3, 1) := by decide +kernel
theorem dX3_init_92 : decode cX3_init 92 = .ok (.if_icmp .ge 22, 3) := by decide +kernel
theorem dX3_init_95 : decode cX3_init 95 = .ok (.aload_n 0, 1) := by decide +kernel
theorem dX3_init_96 : decode cX3_init 96 = .ok (.getfield 11, 3) := by decide +kernel
theorem dX3_init_99 : decode cX3_init 99 = .ok (.iload_n 1, 1) := by decide +kernel
theorem dX3_init_100 : decode cX3_init 100 = .ok (.new 9, 3) := by decide +kernel
theorem dX3_init_103 : decode cX3_init 103 = .ok (.dup, 1) := by decide +kernel
theorem dX3_init_104 : decode cX3_init 104 = .ok (.invokespecial 55, 3) := by decide +kernel
theorem dX3_init_107 : decode cX3_init 107 = .ok (.aastore, 1) := by decide +kernel
theorem dX3_init_108 : decode cX3_init 108 = .ok (.iinc 1 1, 3) := by decide +kernel
theorem dX3_init_111 : decode cX3_init 111 = .ok (.goto (-21), 3) := by decide +kernel
theorem dX3_init_114 : decode cX3_init 114 = .ok (.aload_n 0, 1) := by decide +kernel
theorem dX3_init_115 : decode cX3_init 115 = .ok (.getfield 29, 3) := by decide +kernel
theorem dX3_init_118 : decode cX3_init 118 = .ok (.iconst (-1), 1) := by decide +kernel
theorem dX3_init_119 : decode cX3_init 119 = .ok (.invokestatic 56, 3) := by decide +kernel
theorem dX3_init_122 : decode cX3_init 122 = .ok (.aload_n 0, 1) := by decide +kernel
theorem dX3_init_123 : decode cX3_init 123 = .ok (.getfield 33, 3) := by decide +kernel
theorem dX3_init_126 : decode cX3_init 126 = .ok (.iconst (-1), 1) := by decide +kernel
theorem dX3_init_127 : decode cX3_init 127 = .ok (.invokestatic 56, 3) := by decide +kernel
theorem dX3_init_130 : decode cX3_init 130 = .ok (.return_, 1) := by decide +kernel
theorem dX3_gate_0 : decode cX3_gate 0 = .ok (.iload_n 1, 1) := by decide +kernel
theorem dX3_gate_1 : decode cX3_gate 1 = .ok (.invokestatic 62, 3) := by decide +kernel
theorem dX3_gate_4 : decode cX3_gate 4 = .ok (.ifCond .ne 5, 3) := by decide +kernel
theorem dX3_gate_7 : decode cX3_gate 7 = .ok (.iconst (-1), 1) := by decide +kernel
theorem dX3_gate_8 : decode cX3_gate 8 = .ok (.ireturn, 1) := by decide +kernel
theorem dX3_gate_9 : decode cX3_gate 9 = .ok (.iload_n 2, 1) := by decide +kernel
theorem dX3_gate_10 : decode cX3_gate 10 = .ok (.ifCond .lt 9, 3) := by decide +kernel
theorem dX3_gate_13 : decode cX3_gate 13 = .ok (.iload_n 2, 1) := by decide +kernel
theorem dX3_gate_14 : decode cX3_gate 14 = .ok (.bipush 10, 2) := by decide +kernel
theorem dX3_gate_16 : decode cX3_gate 16 = .ok (.if_icmp .le 6, 3) := by decide +kernel
theorem dX3_gate_19 : decode cX3_gate 19 = .ok (.bipush (-2), 2) := by decide +kernel
theorem dX3_gate_21 : decode cX3_gate 21 = .ok (.ireturn, 1) := by decide +kernel
theorem dX3_gate_22 : decode cX3_gate 22 = .ok (.aload_n 0, 1) := by decide +kernel
theorem dX3_gate_23 : decode cX3_gate 23 = .ok (.getfield 11, 3) := by decide +kernel
theorem dX3_gate_26 : decode cX3_gate 26 = .ok (.iload_n 1, 1) := by decide +kernel
theorem dX3_gate_27 : decode cX3_gate 27 = .ok (.aaload, 1) := by decide +kernel
theorem dX3_gate_28 : decode cX3_gate 28 = .ok (.iload_n 2, 1) := by decide +kernel
theorem dX3_gate_29 : decode cX3_gate 29 = .ok (.iload_n 3, 1) := by decide +kernel
theorem dX3_gate_30 : decode cX3_gate 30 = .ok (.iload 4, 2) := by decide +kernel
theorem dX3_gate_32 : decode cX3_gate 32 = .ok (.iload 5, 2) := by decide +kernel
theorem dX3_gate_34 : decode cX3_gate 34 = .ok (.invokevirtual 66, 3) := by decide +kernel
theorem dX3_gate_37 : decode cX3_gate 37 = .ok (.ifCond .ne 5, 3) := by decide +kernel
theorem dX3_gate_40 : decode cX3_gate 40 = .ok (.iconst (-1), 1) := by decide +kernel
theorem dX3_gate_41 : decode cX3_gate 41 = .ok (.ireturn, 1) := by decide +kernel
theorem dX3_gate_42 : decode cX3_gate 42 = .ok (.iload_n 2, 1) := by decide +kernel
theorem dX3_gate_43 : decode cX3_gate 43 = .ok (.ifCond .ne 13, 3) := by decide +kernel
theorem dX3_gate_46 : decode cX3_gate 46 = .ok (.iload_n 3, 1) := by decide +kernel
theorem dX3_gate_47 : decode cX3_gate 47 = .ok (.invokestatic 70, 3) := by decide +kernel
theorem dX3_gate_50 : decode cX3_gate 50 = .ok (.ifCond .ne 6, 3) := by decide +kernel
theorem dX3_gate_53 : decode cX3_gate 53 = .ok (.bipush (-2), 2) := by decide +kernel
theorem dX3_gate_55 : decode cX3_gate 55 = .ok (.ireturn, 1) := by decide +kernel
theorem dX3_gate_56 : decode cX3_gate 56 = .ok (.aload_n 0, 1) := by decide +kernel
theorem dX3_gate_57 : decode cX3_gate 57 = .ok (.getfield 11, 3) := by decide +kernel
theorem dX3_gate_60 : decode cX3_gate 60 = .ok (.iload_n 1, 1) := by decide +kernel
theorem dX3_gate_61 : decode cX3_gate 61 = .ok (.aaload, 1) := by decide +kernel
theorem dX3_gate_62 : decode cX3_gate 62 = .ok (.iload_n 2, 1) := by decide +kernel
theorem dX3_gate_63 : decode cX3_gate 63 = .ok (.iload_n 3, 1) := by decide +kernel
theorem dX3_gate_64 : decode cX3_gate 64 = .ok (.iload 4, 2) := by decide +kernel
theorem dX3_gate_66 : decode cX3_gate 66 = .ok (.iload 5, 2) := by decide +kernel
theorem dX3_gate_68 : decode cX3_gate 68 = .ok (.invokevirtual 73, 3) := by decide +kernel
theorem dX3_gate_71 : decode cX3_gate 71 = .ok (.ireturn, 1) := by decide +kernel
theorem dX3_output_0 : decode cX3_output 0 = .ok (.iload_n 1, 1) := by decide +kernel
theorem dX3_output_1 : decode cX3_output 1 = .ok (.invokestatic 62, 3) := by decide +kernel
theorem dX3_output_4 : decode cX3_output 4 = .ok (.ifCond .eq 16, 3) := by decide +kernel
theorem dX3_output_7 : decode cX3_output 7 = .ok (.aload_n 0, 1) := by decide +kernel
theorem dX3_output_8 : decode cX3_output 8 = .ok (.getfield 11, 3) := by decide +kernel
theorem dX3_output_11 : decode cX3_output 11 = .ok (.iload_n 1, 1) := by decide +kernel
theorem dX3_output_12 : decode cX3_output 12 = .ok (.aaload, 1) := by decide +kernel
theorem dX3_output_13 : decode cX3_output 13 = .ok (.iload_n 2, 1) := by decide +kernel
theorem dX3_output_14 : decode cX3_output 14 = .ok (.invokevirtual 77, 3) := by decide +kernel
theorem dX3_output_17 : decode cX3_output 17 = .ok (.ifCond .ne 5, 3) := by decide +kernel
theorem dX3_output_20 : decode cX3_output 20 = .ok (.iconst (-1), 1) := by decide +kernel
theorem dX3_output_21 : decode cX3_output 21 = .ok (.ireturn, 1) := by decide +kernel
theorem dX3_output_22 : decode cX3_output 22 = .ok (.aload_n 0, 1) := by decide +kernel
theorem dX3_output_23 : decode cX3_output 23 = .ok (.getfield 11, 3) := by decide +kernel
theorem dX3_output_26 : decode cX3_output 26 = .ok (.iload_n 1, 1) := by decide +kernel
theorem dX3_output_27 : decode cX3_output 27 = .ok (.aaload, 1) := by decide +kernel
theorem dX3_output_28 : decode cX3_output 28 = .ok (.iload_n 2, 1) := by decide +kernel
theorem dX3_output_29 : decode cX3_output 29 = .ok (.invokevirtual 80, 3) := by decide +kernel
theorem dX3_output_32 : decode cX3_output 32 = .ok (.ireturn, 1) := by decide +kernel
theorem dX3_clear_0 : decode cX3_clear 0 = .ok (.iload_n 1, 1) := by decide +kernel
theorem dX3_clear_1 : decode cX3_clear 1 = .ok (.invokestatic 62, 3) := by decide +kernel
theorem dX3_clear_4 : decode cX3_clear 4 = .ok (.ifCond .ne 5, 3) := by decide +kernel
theorem dX3_clear_7 : decode cX3_clear 7 = .ok (.iconst (-1), 1) := by decide +kernel
theorem dX3_clear_8 : decode cX3_clear 8 = .ok (.ireturn, 1) := by decide +kernel
theorem dX3_clear_9 : decode cX3_clear 9 = .ok (.aload_n 0, 1) := by decide +kernel
theorem dX3_clear_10 : decode cX3_clear 10 = .ok (.getfield 11, 3) := by decide +kernel
theorem dX3_clear_13 : decode cX3_clear 13 = .ok (.iload_n 1, 1) := by decide +kernel
theorem dX3_clear_14 : decode cX3_clear 14 = .ok (.aaload, 1) := by decide +kernel
theorem dX3_clear_15 : decode cX3_clear 15 = .ok (.invokevirtual 84, 3) := by decide +kernel
theorem dX3_clear_18 : decode cX3_clear 18 = .ok (.ireturn, 1) := by decide +kernel
theorem dX3_gives_0 : decode cX3_gives 0 = .ok (.iload_n 1, 1) := by decide +kernel
theorem dX3_gives_1 : decode cX3_gives 1 = .ok (.invokestatic 62, 3) := by decide +kernel
theorem dX3_gives_4 : decode cX3_gives 4 = .ok (.ifCond .eq 16, 3) := by decide +kernel
theorem dX3_gives_7 : decode cX3_gives 7 = .ok (.aload_n 0, 1) := by decide +kernel
theorem dX3_gives_8 : decode cX3_gives 8 = .ok (.getfield 11, 3) := by decide +kernel
theorem dX3_gives_11 : decode cX3_gives 11 = .ok (.iload_n 1, 1) := by decide +kernel
theorem dX3_gives_12 : decode cX3_gives 12 = .ok (.aaload, 1) := by decide +kernel
theorem dX3_gives_13 : decode cX3_gives 13 = .ok (.iload_n 2, 1) := by decide +kernel
theorem dX3_gives_14 : decode cX3_gives 14 = .ok (.invokevirtual 88, 3) := by decide +kernel
theorem dX3_gives_17 : decode cX3_gives 17 = .ok (.ifCond .ne 5, 3) := by decide +kernel
theorem dX3_gives_20 : decode cX3_gives 20 = .ok (.iconst (-1), 1) := by decide +kernel
theorem dX3_gives_21 : decode cX3_gives 21 = .ok (.ireturn, 1) := by decide +kernel
theorem dX3_gives_22 : decode cX3_gives 22 = .ok (.iload_n 3, 1) := by decide +kernel
theorem dX3_gives_23 : decode cX3_gives 23 = .ok (.invokestatic 91, 3) := by decide +kernel
theorem dX3_gives_26 : decode cX3_gives 26 = .ok (.ifCond .ne 6, 3) := by decide +kernel
theorem dX3_gives_29 : decode cX3_gives 29 = .ok (.bipush (-2), 2) := by decide +kernel
theorem dX3_gives_31 : decode cX3_gives 31 = .ok (.ireturn, 1) := by decide +kernel
theorem dX3_gives_32 : decode cX3_gives 32 = .ok (.aload_n 0, 1) := by decide +kernel
theorem dX3_gives_33 : decode cX3_gives 33 = .ok (.getfield 11, 3) := by decide +kernel
theorem dX3_gives_36 : decode cX3_gives 36 = .ok (.iload_n 1, 1) := by decide +kernel
theorem dX3_gives_37 : decode cX3_gives 37 = .ok (.aaload, 1) := by decide +kernel
theorem dX3_gives_38 : decode cX3_gives 38 = .ok (.iload_n 2, 1) := by decide +kernel
theorem dX3_gives_39 : decode cX3_gives 39 = .ok (.iload_n 3, 1) := by decide +kernel
theorem dX3_gives_40 : decode cX3_gives 40 = .ok (.invokevirtual 94, 3) := by decide +kernel
theorem dX3_gives_43 : decode cX3_gives 43 = .ok (.ireturn, 1) := by decide +kernel
theorem dX3_order_0 : decode cX3_order 0 = .ok (.iload_n 1, 1) := by decide +kernel
theorem dX3_order_1 : decode cX3_order 1 = .ok (.invokestatic 62, 3) := by decide +kernel
theorem dX3_order_4 : decode cX3_order 4 = .ok (.ifCond .ne 5, 3) := by decide +kernel
theorem dX3_order_7 : decode cX3_order 7 = .ok (.iconst (-1), 1) := by decide +kernel
theorem dX3_order_8 : decode cX3_order 8 = .ok (.ireturn, 1) := by decide +kernel
theorem dX3_order_9 : decode cX3_order 9 = .ok (.aload_n 0, 1) := by decide +kernel
theorem dX3_order_10 : decode cX3_order 10 = .ok (.invokevirtual 98, 3) := by decide +kernel
theorem dX3_order_13 : decode cX3_order 13 = .ok (.ifCond .le 6, 3) := by decide +kernel
theorem dX3_order_16 : decode cX3_order 16 = .ok (.bipush (-3), 2) := by decide +kernel
theorem dX3_order_18 : decode cX3_order 18 = .ok (.ireturn, 1) := by decide +kernel
theorem dX3_order_19 : decode cX3_order 19 = .ok (.aload_n 0, 1) := by decide +kernel
theorem dX3_order_20 : decode cX3_order 20 = .ok (.getfield 18, 3) := by decide +kernel
theorem dX3_order_23 : decode cX3_order 23 = .ok (.invokevirtual 101, 3) := by decide +kernel
theorem dX3_order_26 : decode cX3_order 26 = .ok (.aload_n 0, 1) := by decide +kernel
theorem dX3_order_27 : decode cX3_order 27 = .ok (.getfield 11, 3) := by decide +kernel
theorem dX3_order_30 : decode cX3_order 30 = .ok (.iload_n 1, 1) := by decide +kernel
theorem dX3_order_31 : decode cX3_order 31 = .ok (.aaload, 1) := by decide +kernel
theorem dX3_order_32 : decode cX3_order 32 = .ok (.aload_n 0, 1) := by decide +kernel
theorem dX3_order_33 : decode cX3_order 33 = .ok (.getfield 18, 3) := by decide +kernel
theorem dX3_order_36 : decode cX3_order 36 = .ok (.invokevirtual 104, 3) := by decide +kernel
theorem dX3_order_39 : decode cX3_order 39 = .ok (.aload_n 0, 1) := by decide +kernel
theorem dX3_order_40 : decode cX3_order 40 = .ok (.getfield 18, 3) := by decide +kernel
theorem dX3_order_43 : decode cX3_order 43 = .ok (.invokevirtual 108, 3) := by decide +kernel
theorem dX3_order_46 : decode cX3_order 46 = .ok (.ireturn, 1) := by decide +kernel
theorem dX3_move_0 : decode cX3_move 0 = .ok (.iload_n 1, 1) := by decide +kernel
theorem dX3_move_1 : decode cX3_move 1 = .ok (.invokestatic 70, 3) := by decide +kernel
theorem dX3_move_4 : decode cX3_move 4 = .ok (.ifCond .eq 10, 3) := by decide +kernel
theorem dX3_move_7 : decode cX3_move 7 = .ok (.iload_n 2, 1) := by decide +kernel
theorem dX3_move_8 : decode cX3_move 8 = .ok (.invokestatic 70, 3) := by decide +kernel
theorem dX3_move_11 : decode cX3_move 11 = .ok (.ifCond .ne 6, 3) := by decide +kernel
theorem dX3_move_14 : decode cX3_move 14 = .ok (.bipush (-2), 2) := by decide +kernel
theorem dX3_move_16 : decode cX3_move 16 = .ok (.ireturn, 1) := by decide +kernel
theorem dX3_move_17 : decode cX3_move 17 = .ok (.aload_n 0, 1) := by decide +kernel
theorem dX3_move_18 : decode cX3_move 18 = .ok (.invokevirtual 98, 3) := by decide +kernel
theorem dX3_move_21 : decode cX3_move 21 = .ok (.ifCond .le 6, 3) := by decide +kernel
theorem dX3_move_24 : decode cX3_move 24 = .ok (.bipush (-3), 2) := by decide +kernel
theorem dX3_move_26 : decode cX3_move 26 = .ok (.ireturn, 1) := by decide +kernel
theorem dX3_move_27 : decode cX3_move 27 = .ok (.aload_n 0, 1) := by decide +kernel
theorem dX3_move_28 : decode cX3_move 28 = .ok (.getfield 18, 3) := by decide +kernel
theorem dX3_move_31 : decode cX3_move 31 = .ok (.iload_n 1, 1) := by decide +kernel
theorem dX3_move_32 : decode cX3_move 32 = .ok (.iload_n 2, 1) := by decide +kernel
theorem dX3_move_33 : decode cX3_move 33 = .ok (.invokevirtual 111, 3) := by decide +kernel
theorem dX3_move_36 : decode cX3_move 36 = .ok (.ireturn, 1) := by decide +kernel
theorem dX3_at_0 : decode cX3_at 0 = .ok (.iload_n 1, 1) := by decide +kernel
theorem dX3_at_1 : decode cX3_at 1 = .ok (.invokestatic 70, 3) := by decide +kernel
theorem dX3_at_4 : decode cX3_at 4 = .ok (.ifCond .ne 6, 3) := by decide +kernel
theorem dX3_at_7 : decode cX3_at 7 = .ok (.bipush (-2), 2) := by decide +kernel
theorem dX3_at_9 : decode cX3_at 9 = .ok (.ireturn, 1) := by decide +kernel
theorem dX3_at_10 : decode cX3_at 10 = .ok (.aload_n 0, 1) := by decide +kernel
theorem dX3_at_11 : decode cX3_at 11 = .ok (.getfield 18, 3) := by decide +kernel
theorem dX3_at_14 : decode cX3_at 14 = .ok (.iload_n 1, 1) := by decide +kernel
theorem dX3_at_15 : decode cX3_at 15 = .ok (.invokevirtual 114, 3) := by decide +kernel
theorem dX3_at_18 : decode cX3_at 18 = .ok (.ireturn, 1) := by decide +kernel
theorem dX3_room_0 : decode cX3_room 0 = .ok (.iload_n 1, 1) := by decide +kernel
theorem dX3_room_1 : decode cX3_room 1 = .ok (.ifCond .lt 10, 3) := by decide +kernel
theorem dX3_room_4 : decode cX3_room 4 = .ok (.iload_n 1, 1) := by decide +kernel
theorem dX3_room_5 : decode cX3_room 5 = .ok (.sipush 250, 3) := by decide +kernel
theorem dX3_room_8 : decode cX3_room 8 = .ok (.if_icmp .le 6, 3) := by decide +kernel
theorem dX3_room_11 : decode cX3_room 11 = .ok (.bipush (-2), 2) := by decide +kernel
theorem dX3_room_13 : decode cX3_room 13 = .ok (.ireturn, 1) := by decide +kernel
theorem dX3_room_14 : decode cX3_room 14 = .ok (.aload_n 0, 1) := by decide +kernel
theorem dX3_room_15 : decode cX3_room 15 = .ok (.invokevirtual 117, 3) := by decide +kernel
theorem dX3_room_18 : decode cX3_room 18 = .ok (.iload_n 1, 1) := by decide +kernel
theorem dX3_room_19 : decode cX3_room 19 = .ok (.if_icmp .le 6, 3) := by decide +kernel
theorem dX3_room_22 : decode cX3_room 22 = .ok (.bipush (-3), 2) := by decide +kernel
theorem dX3_room_24 : decode cX3_room 24 = .ok (.ireturn, 1) := by decide +kernel
theorem dX3_room_25 : decode cX3_room 25 = .ok (.aload_n 0, 1) := by decide +kernel
theorem dX3_room_26 : decode cX3_room 26 = .ok (.getfield 25, 3) := by decide +kernel
theorem dX3_room_29 : decode cX3_room 29 = .ok (.iload_n 1, 1) := by decide +kernel
theorem dX3_room_30 : decode cX3_room 30 = .ok (.invokevirtual 120, 3) := by decide +kernel
theorem dX3_room_33 : decode cX3_room 33 = .ok (.ireturn, 1) := by decide +kernel
theorem dX3_build_0 : decode cX3_build 0 = .ok (.iload_n 1, 1) := by decide +kernel
theorem dX3_build_1 : decode cX3_build 1 = .ok (.invokestatic 123, 3) := by decide +kernel
theorem dX3_build_4 : decode cX3_build 4 = .ok (.ifCond .eq 23, 3) := by decide +kernel
theorem dX3_build_7 : decode cX3_build 7 = .ok (.iload_n 2, 1) := by decide +kernel
theorem dX3_build_8 : decode cX3_build 8 = .ok (.invokestatic 62, 3) := by decide +kernel
theorem dX3_build_11 : decode cX3_build 11 = .ok (.ifCond .eq 16, 3) := by decide +kernel
theorem dX3_build_14 : decode cX3_build 14 = .ok (.aload_n 0, 1) := by decide +kernel
theorem dX3_build_15 : decode cX3_build 15 = .ok (.getfield 11, 3) := by decide +kernel
theorem dX3_build_18 : decode cX3_build 18 = .ok (.iload_n 2, 1) := by decide +kernel
theorem dX3_build_19 : decode cX3_build 19 = .ok (.aaload, 1) := by decide +kernel
theorem dX3_build_20 : decode cX3_build 20 = .ok (.iload_n 3, 1) := by decide +kernel
theorem dX3_build_21 : decode cX3_build 21 = .ok (.invokevirtual 88, 3) := by decide +kernel
theorem dX3_build_24 : decode cX3_build 24 = .ok (.ifCond .ne 5, 3) := by decide +kernel
theorem dX3_build_27 : decode cX3_build 27 = .ok (.iconst (-1), 1) := by decide +kernel
theorem dX3_build_28 : decode cX3_build 28 = .ok (.ireturn, 1) := by decide +kernel
theorem dX3_build_29 : decode cX3_build 29 = .ok (.aload_n 0, 1) := by decide +kernel
theorem dX3_build_30 : decode cX3_build 30 = .ok (.invokevirtual 126, 3) := by decide +kernel
theorem dX3_build_33 : decode cX3_build 33 = .ok (.aload_n 0, 1) := by decide +kernel
theorem dX3_build_34 : decode cX3_build 34 = .ok (.iload_n 1, 1) := by decide +kernel
theorem dX3_build_35 : decode cX3_build 35 = .ok (.aload_n 0, 1) := by decide +kernel
theorem dX3_build_36 : decode cX3_build 36 = .ok (.aload_n 0, 1) := by decide +kernel
theorem dX3_build_37 : decode cX3_build 37 = .ok (.getfield 11, 3) := by decide +kernel
theorem dX3_build_40 : decode cX3_build 40 = .ok (.iload_n 2, 1) := by decide +kernel
theorem dX3_build_41 : decode cX3_build 41 = .ok (.aaload, 1) := by decide +kernel
theorem dX3_build_42 : decode cX3_build 42 = .ok (.iload_n 3, 1) := by decide +kernel
theorem dX3_build_43 : decode cX3_build 43 = .ok (.invokevirtual 129, 3) := by decide +kernel
theorem dX3_build_46 : decode cX3_build 46 = .ok (.invokevirtual 133, 3) := by decide +kernel
theorem dX3_build_49 : decode cX3_build 49 = .ok (.ireturn, 1) := by decide +kernel
theorem dX3_variable_0 : decode cX3_variable 0 = .ok (.iload_n 1, 1) := by decide +kernel
theorem dX3_variable_1 : decode cX3_variable 1 = .ok (.invokestatic 123, 3) := by decide +kernel
theorem dX3_variable_4 : decode cX3_variable 4 = .ok (.ifCond .ne 5, 3) := by decide +kernel
theorem dX3_variable_7 : decode cX3_variable 7 = .ok (.iconst (-1), 1) := by decide +kernel
theorem dX3_variable_8 : decode cX3_variable 8 = .ok (.ireturn, 1) := by decide +kernel
theorem dX3_variable_9 : decode cX3_variable 9 = .ok (.iload_n 2, 1) := by decide +kernel
theorem dX3_variable_10 : decode cX3_variable 10 = .ok (.invokestatic 70, 3) := by decide +kernel
theorem dX3_variable_13 : decode cX3_variable 13 = .ok (.ifCond .ne 6, 3) := by decide +kernel
theorem dX3_variable_16 : decode cX3_variable 16 = .ok (.bipush (-2), 2) := by decide +kernel
theorem dX3_variable_18 : decode cX3_variable 18 = .ok (.ireturn, 1) := by decide +kernel
theorem dX3_variable_19 : decode cX3_variable 19 = .ok (.aload_n 0, 1) := by decide +kernel
theorem dX3_variable_20 : decode cX3_variable 20 = .ok (.invokevirtual 126, 3) := by decide +kernel
theorem dX3_variable_23 : decode cX3_variable 23 = .ok (.aload_n 0, 1) := by decide +kernel
theorem dX3_variable_24 : decode cX3_variable 24 = .ok (.iload_n 1, 1) := by decide +kernel
theorem dX3_variable_25 : decode cX3_variable 25 = .ok (.aload_n 0, 1) := by decide +kernel
theorem dX3_variable_26 : decode cX3_variable 26 = .ok (.iload_n 2, 1) := by decide +kernel
theorem dX3_variable_27 : decode cX3_variable 27 = .ok (.invokevirtual 136, 3) := by decide +kernel
theorem dX3_variable_30 : decode cX3_variable 30 = .ok (.invokevirtual 133, 3) := by decide +kernel
theorem dX3_variable_33 : decode cX3_variable 33 = .ok (.ireturn, 1) := by decide +kernel
theorem dX3_combine_0 : decode cX3_combine 0 = .ok (.iload_n 1, 1) := by decide +kernel
theorem dX3_combine_1 : decode cX3_combine 1 = .ok (.invokestatic 123, 3) := by decide +kernel
theorem dX3_combine_4 : decode cX3_combine 4 = .ok (.ifCond .ne 5, 3) := by decide +kernel
theorem dX3_combine_7 : decode cX3_combine 7 = .ok (.iconst (-1), 1) := by decide +kernel
theorem dX3_combine_8 : decode cX3_combine 8 = .ok (.ireturn, 1) := by decide +kernel
theorem dX3_combine_9 : decode cX3_combine 9 = .ok (.iload_n 2, 1) := by decide +kernel
theorem dX3_combine_10 : decode cX3_combine 10 = .ok (.ifCond .le 9, 3) := by decide +kernel
theorem dX3_combine_13 : decode cX3_combine 13 = .ok (.iload_n 2, 1) := by decide +kernel
theorem dX3_combine_14 : decode cX3_combine 14 = .ok (.bipush 9, 2) := by decide +kernel
theorem dX3_combine_16 : decode cX3_combine 16 = .ok (.if_icmp .le 6, 3) := by decide +kernel
theorem dX3_combine_19 : decode cX3_combine 19 = .ok (.bipush (-2), 2) := by decide +kernel
theorem dX3_combine_21 : decode cX3_combine 21 = .ok (.ireturn, 1) := by decide +kernel
theorem dX3_combine_22 : decode cX3_combine 22 = .ok (.iload_n 2, 1) := by decide +kernel
theorem dX3_combine_23 : decode cX3_combine 23 = .ok (.iconst 3, 1) := by decide +kernel
theorem dX3_combine_24 : decode cX3_combine 24 = .ok (.if_icmp .lt 7, 3) := by decide +kernel
theorem dX3_combine_27 : decode cX3_combine 27 = .ok (.iconst 1, 1) := by decide +kernel
theorem dX3_combine_28 : decode cX3_combine 28 = .ok (.goto 4, 3) := by decide +kernel
theorem dX3_combine_31 : decode cX3_combine 31 = .ok (.iconst 0, 1) := by decide +kernel
theorem dX3_combine_32 : decode cX3_combine 32 = .ok (.istore 5, 2) := by decide +kernel
theorem dX3_combine_34 : decode cX3_combine 34 = .ok (.iload_n 2, 1) := by decide +kernel
theorem dX3_combine_35 : decode cX3_combine 35 = .ok (.iconst 3, 1) := by decide +kernel
theorem dX3_combine_36 : decode cX3_combine 36 = .ok (.if_icmp .le 7, 3) := by decide +kernel
theorem dX3_combine_39 : decode cX3_combine 39 = .ok (.iconst 1, 1) := by decide +kernel
theorem dX3_combine_40 : decode cX3_combine 40 = .ok (.goto 4, 3) := by decide +kernel
theorem dX3_combine_43 : decode cX3_combine 43 = .ok (.iconst 0, 1) := by decide +kernel
theorem dX3_combine_44 : decode cX3_combine 44 = .ok (.istore 6, 2) := by decide +kernel
theorem dX3_combine_46 : decode cX3_combine 46 = .ok (.iload 5, 2) := by decide +kernel
theorem dX3_combine_48 : decode cX3_combine 48 = .ok (.ifCond .eq 11, 3) := by decide +kernel
theorem dX3_combine_51 : decode cX3_combine 51 = .ok (.aload_n 0, 1) := by decide +kernel
theorem dX3_combine_52 : decode cX3_combine 52 = .ok (.iload_n 3, 1) := by decide +kernel
theorem dX3_combine_53 : decode cX3_combine 53 = .ok (.invokevirtual 139, 3) := by decide +kernel
theorem dX3_combine_56 : decode cX3_combine 56 = .ok (.ifCond .eq 17, 3) := by decide +kernel
theorem dX3_combine_59 : decode cX3_combine 59 = .ok (.iload 6, 2) := by decide +kernel
theorem dX3_combine_61 : decode cX3_combine 61 = .ok (.ifCond .eq 14, 3) := by decide +kernel
theorem dX3_combine_64 : decode cX3_combine 64 = .ok (.aload_n 0, 1) := by decide +kernel
theorem dX3_combine_65 : decode cX3_combine 65 = .ok (.iload 4, 2) := by decide +kernel
theorem dX3_combine_67 : decode cX3_combine 67 = .ok (.invokevirtual 139, 3) := by decide +kernel
theorem dX3_combine_70 : decode cX3_combine 70 = .ok (.ifCond .ne 5, 3) := by decide +kernel
theorem dX3_combine_73 : decode cX3_combine 73 = .ok (.iconst (-1), 1) := by decide +kernel
theorem dX3_combine_74 : decode cX3_combine 74 = .ok (.ireturn, 1) := by decide +kernel
theorem dX3_combine_75 : decode cX3_combine 75 = .ok (.aload_n 0, 1) := by decide +kernel
theorem dX3_combine_76 : decode cX3_combine 76 = .ok (.invokevirtual 126, 3) := by decide +kernel
theorem dX3_combine_79 : decode cX3_combine 79 = .ok (.aload_n 0, 1) := by decide +kernel
theorem dX3_combine_80 : decode cX3_combine 80 = .ok (.iload_n 1, 1) := by decide +kernel
theorem dX3_combine_81 : decode cX3_combine 81 = .ok (.aload_n 0, 1) := by decide +kernel
theorem dX3_combine_82 : decode cX3_combine 82 = .ok (.iload_n 2, 1) := by decide +kernel
theorem dX3_combine_83 : decode cX3_combine 83 = .ok (.iload 5, 2) := by decide +kernel
theorem dX3_combine_85 : decode cX3_combine 85 = .ok (.ifCond .eq 12, 3) := by decide +kernel
theorem dX3_combine_88 : decode cX3_combine 88 = .ok (.aload_n 0, 1) := by decide +kernel
theorem dX3_combine_89 : decode cX3_combine 89 = .ok (.getfield 29, 3) := by decide +kernel
theorem dX3_combine_92 : decode cX3_combine 92 = .ok (.iload_n 3, 1) := by decide +kernel
theorem dX3_combine_93 : decode cX3_combine 93 = .ok (.iaload, 1) := by decide +kernel
theorem dX3_combine_94 : decode cX3_combine 94 = .ok (.goto 4, 3) := by decide +kernel
theorem dX3_combine_97 : decode cX3_combine 97 = .ok (.iconst 0, 1) := by decide +kernel
theorem dX3_combine_98 : decode cX3_combine 98 = .ok (.iload 6, 2) := by decide +kernel
theorem dX3_combine_100 : decode cX3_combine 100 = .ok (.ifCond .eq 13, 3) := by decide +kernel
theorem dX3_combine_103 : decode cX3_combine 103 = .ok (.aload_n 0, 1) := by decide +kernel
theorem dX3_combine_104 : decode cX3_combine 104 = .ok (.getfield 29, 3) := by decide +kernel
theorem dX3_combine_107 : decode cX3_combine 107 = .ok (.iload 4, 2) := by decide +kernel
theorem dX3_combine_109 : decode cX3_combine 109 = .ok (.iaload, 1) := by decide +kernel
theorem dX3_combine_110 : decode cX3_combine 110 = .ok (.goto 4, 3) := by decide +kernel
theorem dX3_combine_113 : decode cX3_combine 113 = .ok (.iconst 0, 1) := by decide +kernel
theorem dX3_combine_114 : decode cX3_combine 114 = .ok (.iconst 0, 1) := by decide +kernel
theorem dX3_combine_115 : decode cX3_combine 115 = .ok (.invokevirtual 142, 3) := by decide +kernel
theorem dX3_combine_118 : decode cX3_combine 118 = .ok (.invokevirtual 133, 3) := by decide +kernel
theorem dX3_combine_121 : decode cX3_combine 121 = .ok (.ireturn, 1) := by decide +kernel
theorem dX3_choose_0 : decode cX3_choose 0 = .ok (.iload_n 1, 1) := by decide +kernel
theorem dX3_choose_1 : decode cX3_choose 1 = .ok (.invokestatic 123, 3) := by decide +kernel
theorem dX3_choose_4 : decode cX3_choose 4 = .ok (.ifCond .eq 28, 3) := by decide +kernel
theorem dX3_choose_7 : decode cX3_choose 7 = .ok (.aload_n 0, 1) := by decide +kernel
theorem dX3_choose_8 : decode cX3_choose 8 = .ok (.iload_n 2, 1) := by decide +kernel
theorem dX3_choose_9 : decode cX3_choose 9 = .ok (.invokevirtual 139, 3) := by decide +kernel
theorem dX3_choose_12 : decode cX3_choose 12 = .ok (.ifCond .eq 20, 3) := by decide +kernel
theorem dX3_choose_15 : decode cX3_choose 15 = .ok (.aload_n 0, 1) := by decide +kernel
theorem dX3_choose_16 : decode cX3_choose 16 = .ok (.iload_n 3, 1) := by decide +kernel
theorem dX3_choose_17 : decode cX3_choose 17 = .ok (.invokevirtual 139, 3) := by decide +kernel
theorem dX3_choose_20 : decode cX3_choose 20 = .ok (.ifCond .eq 12, 3) := by decide +kernel
theorem dX3_choose_23 : decode cX3_choose 23 = .ok (.aload_n 0, 1) := by decide +kernel
theorem dX3_choose_24 : decode cX3_choose 24 = .ok (.iload 4, 2) := by decide +kernel
theorem dX3_choose_26 : decode cX3_choose 26 = .ok (.invokevirtual 139, 3) := by decide +kernel
theorem dX3_choose_29 : decode cX3_choose 29 = .ok (.ifCond .ne 5, 3) := by decide +kernel
theorem dX3_choose_32 : decode cX3_choose 32 = .ok (.iconst (-1), 1) := by decide +kernel
theorem dX3_choose_33 : decode cX3_choose 33 = .ok (.ireturn, 1) := by decide +kernel
theorem dX3_choose_34 : decode cX3_choose 34 = .ok (.aload_n 0, 1) := by decide +kernel
theorem dX3_choose_35 : decode cX3_choose 35 = .ok (.invokevirtual 126, 3) := by decide +kernel
theorem dX3_choose_38 : decode cX3_choose 38 = .ok (.aload_n 0, 1) := by decide +kernel
theorem dX3_choose_39 : decode cX3_choose 39 = .ok (.iload_n 1, 1) := by decide +kernel
theorem dX3_choose_40 : decode cX3_choose 40 = .ok (.aload_n 0, 1) := by decide +kernel
theorem dX3_choose_41 : decode cX3_choose 41 = .ok (.bipush 10, 2) := by decide +kernel
theorem dX3_choose_43 : decode cX3_choose 43 = .ok (.aload_n 0, 1) := by decide +kernel
theorem dX3_choose_44 : decode cX3_choose 44 = .ok (.getfield 29, 3) := by decide +kernel
theorem dX3_choose_47 : decode cX3_choose 47 = .ok (.iload_n 2, 1) := by decide +kernel
theorem dX3_choose_48 : decode cX3_choose 48 = .ok (.iaload, 1) := by decide +kernel
theorem dX3_choose_49 : decode cX3_choose 49 = .ok (.aload_n 0, 1) := by decide +kernel
theorem dX3_choose_50 : decode cX3_choose 50 = .ok (.getfield 29, 3) := by decide +kernel
theorem dX3_choose_53 : decode cX3_choose 53 = .ok (.iload_n 3, 1) := by decide +kernel
theorem dX3_choose_54 : decode cX3_choose 54 = .ok (.iaload, 1) := by decide +kernel
theorem dX3_choose_55 : decode cX3_choose 55 = .ok (.aload_n 0, 1) := by decide +kernel
theorem dX3_choose_56 : decode cX3_choose 56 = .ok (.getfield 29, 3) := by decide +kernel
theorem dX3_choose_59 : decode cX3_choose 59 = .ok (.iload 4, 2) := by decide +kernel
theorem dX3_choose_61 : decode cX3_choose 61 = .ok (.iaload, 1) := by decide +kernel
theorem dX3_choose_62 : decode cX3_choose 62 = .ok (.invokevirtual 142, 3) := by decide +kernel
theorem dX3_choose_65 : decode cX3_choose 65 = .ok (.invokevirtual 133, 3) := by decide +kernel
theorem dX3_choose_68 : decode cX3_choose 68 = .ok (.ireturn, 1) := by decide +kernel
theorem dX3_restrict_0 : decode cX3_restrict 0 = .ok (.iload_n 1, 1) := by decide +kernel
theorem dX3_restrict_1 : decode cX3_restrict 1 = .ok (.invokestatic 123, 3) := by decide +kernel
theorem dX3_restrict_4 : decode cX3_restrict 4 = .ok (.ifCond .eq 11, 3) := by decide +kernel
theorem dX3_restrict_7 : decode cX3_restrict 7 = .ok (.aload_n 0, 1) := by decide +kernel
theorem dX3_restrict_8 : decode cX3_restrict 8 = .ok (.iload_n 2, 1) := by decide +kernel
theorem dX3_restrict_9 : decode cX3_restrict 9 = .ok (.invokevirtual 139, 3) := by decide +kernel
theorem dX3_restrict_12 : decode cX3_restrict 12 = .ok (.ifCond .ne 5, 3) := by decide +kernel
theorem dX3_restrict_15 : decode cX3_restrict 15 = .ok (.iconst (-1), 1) := by decide +kernel
theorem dX3_restrict_16 : decode cX3_restrict 16 = .ok (.ireturn, 1) := by decide +kernel
theorem dX3_restrict_17 : decode cX3_restrict 17 = .ok (.iload_n 3, 1) := by decide +kernel
theorem dX3_restrict_18 : decode cX3_restrict 18 = .ok (.invokestatic 70, 3) := by decide +kernel
theorem dX3_restrict_21 : decode cX3_restrict 21 = .ok (.ifCond .ne 6, 3) := by decide +kernel
theorem dX3_restrict_24 : decode cX3_restrict 24 = .ok (.bipush (-2), 2) := by decide +kernel
theorem dX3_restrict_26 : decode cX3_restrict 26 = .ok (.ireturn, 1) := by decide +kernel
theorem dX3_restrict_27 : decode cX3_restrict 27 = .ok (.aload_n 0, 1) := by decide +kernel
theorem dX3_restrict_28 : decode cX3_restrict 28 = .ok (.invokevirtual 126, 3) := by decide +kernel
theorem dX3_restrict_31 : decode cX3_restrict 31 = .ok (.aload_n 0, 1) := by decide +kernel
theorem dX3_restrict_32 : decode cX3_restrict 32 = .ok (.iload_n 1, 1) := by decide +kernel
theorem dX3_restrict_33 : decode cX3_restrict 33 = .ok (.aload_n 0, 1) := by decide +kernel
theorem dX3_restrict_34 : decode cX3_restrict 34 = .ok (.aload_n 0, 1) := by decide +kernel
theorem dX3_restrict_35 : decode cX3_restrict 35 = .ok (.getfield 29, 3) := by decide +kernel
theorem dX3_restrict_38 : decode cX3_restrict 38 = .ok (.iload_n 2, 1) := by decide +kernel
theorem dX3_restrict_39 : decode cX3_restrict 39 = .ok (.iaload, 1) := by decide +kernel
theorem dX3_restrict_40 : decode cX3_restrict 40 = .ok (.iload_n 3, 1) := by decide +kernel
theorem dX3_restrict_41 : decode cX3_restrict 41 = .ok (.iload 4, 2) := by decide +kernel
theorem dX3_restrict_43 : decode cX3_restrict 43 = .ok (.invokevirtual 145, 3) := by decide +kernel
theorem dX3_restrict_46 : decode cX3_restrict 46 = .ok (.invokevirtual 133, 3) := by decide +kernel
theorem dX3_restrict_49 : decode cX3_restrict 49 = .ok (.ireturn, 1) := by decide +kernel
theorem dX3_quantify_0 : decode cX3_quantify 0 = .ok (.iload_n 1, 1) := by decide +kernel
theorem dX3_quantify_1 : decode cX3_quantify 1 = .ok (.invokestatic 123, 3) := by decide +kernel
theorem dX3_quantify_4 : decode cX3_quantify 4 = .ok (.ifCond .eq 11, 3) := by decide +kernel
theorem dX3_quantify_7 : decode cX3_quantify 7 = .ok (.aload_n 0, 1) := by decide +kernel
theorem dX3_quantify_8 : decode cX3_quantify 8 = .ok (.iload_n 2, 1) := by decide +kernel
theorem dX3_quantify_9 : decode cX3_quantify 9 = .ok (.invokevirtual 139, 3) := by decide +kernel
theorem dX3_quantify_12 : decode cX3_quantify 12 = .ok (.ifCond .ne 5, 3) := by decide +kernel
theorem dX3_quantify_15 : decode cX3_quantify 15 = .ok (.iconst (-1), 1) := by decide +kernel
theorem dX3_quantify_16 : decode cX3_quantify 16 = .ok (.ireturn, 1) := by decide +kernel
theorem dX3_quantify_17 : decode cX3_quantify 17 = .ok (.iload_n 3, 1) := by decide +kernel
theorem dX3_quantify_18 : decode cX3_quantify 18 = .ok (.invokestatic 70, 3) := by decide +kernel
theorem dX3_quantify_21 : decode cX3_quantify 21 = .ok (.ifCond .ne 6, 3) := by decide +kernel
theorem dX3_quantify_24 : decode cX3_quantify 24 = .ok (.bipush (-2), 2) := by decide +kernel
theorem dX3_quantify_26 : decode cX3_quantify 26 = .ok (.ireturn, 1) := by decide +kernel
theorem dX3_quantify_27 : decode cX3_quantify 27 = .ok (.aload_n 0, 1) := by decide +kernel
theorem dX3_quantify_28 : decode cX3_quantify 28 = .ok (.invokevirtual 126, 3) := by decide +kernel
theorem dX3_quantify_31 : decode cX3_quantify 31 = .ok (.aload_n 0, 1) := by decide +kernel
theorem dX3_quantify_32 : decode cX3_quantify 32 = .ok (.aload_n 0, 1) := by decide +kernel
theorem dX3_quantify_33 : decode cX3_quantify 33 = .ok (.aload_n 0, 1) := by decide +kernel
theorem dX3_quantify_34 : decode cX3_quantify 34 = .ok (.getfield 29, 3) := by decide +kernel
theorem dX3_quantify_37 : decode cX3_quantify 37 = .ok (.iload_n 2, 1) := by decide +kernel
theorem dX3_quantify_38 : decode cX3_quantify 38 = .ok (.iaload, 1) := by decide +kernel
theorem dX3_quantify_39 : decode cX3_quantify 39 = .ok (.iload_n 3, 1) := by decide +kernel
theorem dX3_quantify_40 : decode cX3_quantify 40 = .ok (.iconst 0, 1) := by decide +kernel
theorem dX3_quantify_41 : decode cX3_quantify 41 = .ok (.invokevirtual 145, 3) := by decide +kernel
theorem dX3_quantify_44 : decode cX3_quantify 44 = .ok (.invokevirtual 149, 3) := by decide +kernel
theorem dX3_quantify_47 : decode cX3_quantify 47 = .ok (.istore 5, 2) := by decide +kernel
theorem dX3_quantify_49 : decode cX3_quantify 49 = .ok (.iload 5, 2) := by decide +kernel
theorem dX3_quantify_51 : decode cX3_quantify 51 = .ok (.iconst (-1), 1) := by decide +kernel
theorem dX3_quantify_52 : decode cX3_quantify 52 = .ok (.if_icmp .ne 7, 3) := by decide +kernel
theorem dX3_quantify_55 : decode cX3_quantify 55 = .ok (.iconst (-1), 1) := by decide +kernel
theorem dX3_quantify_56 : decode cX3_quantify 56 = .ok (.goto 19, 3) := by decide +kernel
theorem dX3_quantify_59 : decode cX3_quantify 59 = .ok (.aload_n 0, 1) := by decide +kernel
theorem dX3_quantify_60 : decode cX3_quantify 60 = .ok (.aload_n 0, 1) := by decide +kernel
theorem dX3_quantify_61 : decode cX3_quantify 61 = .ok (.aload_n 0, 1) := by decide +kernel
theorem dX3_quantify_62 : decode cX3_quantify 62 = .ok (.getfield 29, 3) := by decide +kernel
theorem dX3_quantify_65 : decode cX3_quantify 65 = .ok (.iload_n 2, 1) := by decide +kernel
theorem dX3_quantify_66 : decode cX3_quantify 66 = .ok (.iaload, 1) := by decide +kernel
theorem dX3_quantify_67 : decode cX3_quantify 67 = .ok (.iload_n 3, 1) := by decide +kernel
theorem dX3_quantify_68 : decode cX3_quantify 68 = .ok (.iconst 1, 1) := by decide +kernel
theorem dX3_quantify_69 : decode cX3_quantify 69 = .ok (.invokevirtual 145, 3) := by decide +kernel
theorem dX3_quantify_72 : decode cX3_quantify 72 = .ok (.invokevirtual 149, 3) := by decide +kernel
theorem dX3_quantify_75 : decode cX3_quantify 75 = .ok (.istore 6, 2) := by decide +kernel
theorem dX3_quantify_77 : decode cX3_quantify 77 = .ok (.aload_n 0, 1) := by decide +kernel
theorem dX3_quantify_78 : decode cX3_quantify 78 = .ok (.iload_n 1, 1) := by decide +kernel
theorem dX3_quantify_79 : decode cX3_quantify 79 = .ok (.aload_n 0, 1) := by decide +kernel
theorem dX3_quantify_80 : decode cX3_quantify 80 = .ok (.iload 4, 2) := by decide +kernel
theorem dX3_quantify_82 : decode cX3_quantify 82 = .ok (.ifCond .eq 7, 3) := by decide +kernel
theorem dX3_quantify_85 : decode cX3_quantify 85 = .ok (.iconst 4, 1) := by decide +kernel
theorem dX3_quantify_86 : decode cX3_quantify 86 = .ok (.goto 4, 3) := by decide +kernel
theorem dX3_quantify_89 : decode cX3_quantify 89 = .ok (.iconst 5, 1) := by decide +kernel
theorem dX3_quantify_90 : decode cX3_quantify 90 = .ok (.iload 5, 2) := by decide +kernel
theorem dX3_quantify_92 : decode cX3_quantify 92 = .ok (.iload 6, 2) := by decide +kernel
theorem dX3_quantify_94 : decode cX3_quantify 94 = .ok (.iconst 0, 1) := by decide +kernel
theorem dX3_quantify_95 : decode cX3_quantify 95 = .ok (.invokevirtual 142, 3) := by decide +kernel
theorem dX3_quantify_98 : decode cX3_quantify 98 = .ok (.invokevirtual 133, 3) := by decide +kernel
theorem dX3_quantify_101 : decode cX3_quantify 101 = .ok (.ireturn, 1) := by decide +kernel
theorem dX3_compose_0 : decode cX3_compose 0 = .ok (.iload_n 1, 1) := by decide +kernel
theorem dX3_compose_1 : decode cX3_compose 1 = .ok (.invokestatic 123, 3) := by decide +kernel
theorem dX3_compose_4 : decode cX3_compose 4 = .ok (.ifCond .eq 20, 3) := by decide +kernel
theorem dX3_compose_7 : decode cX3_compose 7 = .ok (.aload_n 0, 1) := by decide +kernel
theorem dX3_compose_8 : decode cX3_compose 8 = .ok (.iload_n 2, 1) := by decide +kernel
theorem dX3_compose_9 : decode cX3_compose 9 = .ok (.invokevirtual 139, 3) := by decide +kernel
theorem dX3_compose_12 : decode cX3_compose 12 = .ok (.ifCond .eq 12, 3) := by decide +kernel
theorem dX3_compose_15 : decode cX3_compose 15 = .ok (.aload_n 0, 1) := by decide +kernel
theorem dX3_compose_16 : decode cX3_compose 16 = .ok (.iload 4, 2) := by decide +kernel
theorem dX3_compose_18 : decode cX3_compose 18 = .ok (.invokevirtual 139, 3) := by decide +kernel
theorem dX3_compose_21 : decode cX3_compose 21 = .ok (.ifCond .ne 5, 3) := by decide +kernel
theorem dX3_compose_24 : decode cX3_compose 24 = .ok (.iconst (-1), 1) := by decide +kernel
theorem dX3_compose_25 : decode cX3_compose 25 = .ok (.ireturn, 1) := by decide +kernel
theorem dX3_compose_26 : decode cX3_compose 26 = .ok (.iload_n 3, 1) := by decide +kernel
theorem dX3_compose_27 : decode cX3_compose 27 = .ok (.invokestatic 70, 3) := by decide +kernel
theorem dX3_compose_30 : decode cX3_compose 30 = .ok (.ifCond .ne 6, 3) := by decide +kernel
theorem dX3_compose_33 : decode cX3_compose 33 = .ok (.bipush (-2), 2) := by decide +kernel
theorem dX3_compose_35 : decode cX3_compose 35 = .ok (.ireturn, 1) := by decide +kernel
theorem dX3_compose_36 : decode cX3_compose 36 = .ok (.aload_n 0, 1) := by decide +kernel
theorem dX3_compose_37 : decode cX3_compose 37 = .ok (.invokevirtual 126, 3) := by decide +kernel
theorem dX3_compose_40 : decode cX3_compose 40 = .ok (.aload_n 0, 1) := by decide +kernel
theorem dX3_compose_41 : decode cX3_compose 41 = .ok (.aload_n 0, 1) := by decide +kernel
theorem dX3_compose_42 : decode cX3_compose 42 = .ok (.aload_n 0, 1) := by decide +kernel
theorem dX3_compose_43 : decode cX3_compose 43 = .ok (.getfield 29, 3) := by decide +kernel
theorem dX3_compose_46 : decode cX3_compose 46 = .ok (.iload_n 2, 1) := by decide +kernel
theorem dX3_compose_47 : decode cX3_compose 47 = .ok (.iaload, 1) := by decide +kernel
theorem dX3_compose_48 : decode cX3_compose 48 = .ok (.iload_n 3, 1) := by decide +kernel
theorem dX3_compose_49 : decode cX3_compose 49 = .ok (.iconst 0, 1) := by decide +kernel
theorem dX3_compose_50 : decode cX3_compose 50 = .ok (.invokevirtual 145, 3) := by decide +kernel
theorem dX3_compose_53 : decode cX3_compose 53 = .ok (.invokevirtual 149, 3) := by decide +kernel
theorem dX3_compose_56 : decode cX3_compose 56 = .ok (.istore 5, 2) := by decide +kernel
theorem dX3_compose_58 : decode cX3_compose 58 = .ok (.iload 5, 2) := by decide +kernel
theorem dX3_compose_60 : decode cX3_compose 60 = .ok (.iconst (-1), 1) := by decide +kernel
theorem dX3_compose_61 : decode cX3_compose 61 = .ok (.if_icmp .ne 7, 3) := by decide +kernel
theorem dX3_compose_64 : decode cX3_compose 64 = .ok (.iconst (-1), 1) := by decide +kernel
theorem dX3_compose_65 : decode cX3_compose 65 = .ok (.goto 19, 3) := by decide +kernel
theorem dX3_compose_68 : decode cX3_compose 68 = .ok (.aload_n 0, 1) := by decide +kernel
theorem dX3_compose_69 : decode cX3_compose 69 = .ok (.aload_n 0, 1) := by decide +kernel
theorem dX3_compose_70 : decode cX3_compose 70 = .ok (.aload_n 0, 1) := by decide +kernel
theorem dX3_compose_71 : decode cX3_compose 71 = .ok (.getfield 29, 3) := by decide +kernel
theorem dX3_compose_74 : decode cX3_compose 74 = .ok (.iload_n 2, 1) := by decide +kernel
theorem dX3_compose_75 : decode cX3_compose 75 = .ok (.iaload, 1) := by decide +kernel
theorem dX3_compose_76 : decode cX3_compose 76 = .ok (.iload_n 3, 1) := by decide +kernel
theorem dX3_compose_77 : decode cX3_compose 77 = .ok (.iconst 1, 1) := by decide +kernel
theorem dX3_compose_78 : decode cX3_compose 78 = .ok (.invokevirtual 145, 3) := by decide +kernel
theorem dX3_compose_81 : decode cX3_compose 81 = .ok (.invokevirtual 149, 3) := by decide +kernel
theorem dX3_compose_84 : decode cX3_compose 84 = .ok (.istore 6, 2) := by decide +kernel
theorem dX3_compose_86 : decode cX3_compose 86 = .ok (.aload_n 0, 1) := by decide +kernel
theorem dX3_compose_87 : decode cX3_compose 87 = .ok (.iload_n 1, 1) := by decide +kernel
theorem dX3_compose_88 : decode cX3_compose 88 = .ok (.aload_n 0, 1) := by decide +kernel
theorem dX3_compose_89 : decode cX3_compose 89 = .ok (.bipush 10, 2) := by decide +kernel
theorem dX3_compose_91 : decode cX3_compose 91 = .ok (.aload_n 0, 1) := by decide +kernel
theorem dX3_compose_92 : decode cX3_compose 92 = .ok (.getfield 29, 3) := by decide +kernel
theorem dX3_compose_95 : decode cX3_compose 95 = .ok (.iload 4, 2) := by decide +kernel
theorem dX3_compose_97 : decode cX3_compose 97 = .ok (.iaload, 1) := by decide +kernel
theorem dX3_compose_98 : decode cX3_compose 98 = .ok (.iload 6, 2) := by decide +kernel
theorem dX3_compose_100 : decode cX3_compose 100 = .ok (.iload 5, 2) := by decide +kernel
theorem dX3_compose_102 : decode cX3_compose 102 = .ok (.invokevirtual 142, 3) := by decide +kernel
theorem dX3_compose_105 : decode cX3_compose 105 = .ok (.invokevirtual 133, 3) := by decide +kernel
theorem dX3_compose_108 : decode cX3_compose 108 = .ok (.ireturn, 1) := by decide +kernel
theorem dX3_share_0 : decode cX3_share 0 = .ok (.iload_n 1, 1) := by decide +kernel
theorem dX3_share_1 : decode cX3_share 1 = .ok (.invokestatic 123, 3) := by decide +kernel
theorem dX3_share_4 : decode cX3_share 4 = .ok (.ifCond .eq 11, 3) := by decide +kernel
theorem dX3_share_7 : decode cX3_share 7 = .ok (.aload_n 0, 1) := by decide +kernel
theorem dX3_share_8 : decode cX3_share 8 = .ok (.iload_n 2, 1) := by decide +kernel
theorem dX3_share_9 : decode cX3_share 9 = .ok (.invokevirtual 139, 3) := by decide +kernel
theorem dX3_share_12 : decode cX3_share 12 = .ok (.ifCond .ne 5, 3) := by decide +kernel
theorem dX3_share_15 : decode cX3_share 15 = .ok (.iconst (-1), 1) := by decide +kernel
theorem dX3_share_16 : decode cX3_share 16 = .ok (.ireturn, 1) := by decide +kernel
theorem dX3_share_17 : decode cX3_share 17 = .ok (.aload_n 0, 1) := by decide +kernel
theorem dX3_share_18 : decode cX3_share 18 = .ok (.getfield 29, 3) := by decide +kernel
theorem dX3_share_21 : decode cX3_share 21 = .ok (.iload_n 1, 1) := by decide +kernel
theorem dX3_share_22 : decode cX3_share 22 = .ok (.aload_n 0, 1) := by decide +kernel
theorem dX3_share_23 : decode cX3_share 23 = .ok (.getfield 29, 3) := by decide +kernel
theorem dX3_share_26 : decode cX3_share 26 = .ok (.iload_n 2, 1) := by decide +kernel
theorem dX3_share_27 : decode cX3_share 27 = .ok (.iaload, 1) := by decide +kernel
theorem dX3_share_28 : decode cX3_share 28 = .ok (.iastore, 1) := by decide +kernel
theorem dX3_share_29 : decode cX3_share 29 = .ok (.iconst 1, 1) := by decide +kernel
theorem dX3_share_30 : decode cX3_share 30 = .ok (.ireturn, 1) := by decide +kernel
theorem dX3_drop_0 : decode cX3_drop 0 = .ok (.iload_n 1, 1) := by decide +kernel
theorem dX3_drop_1 : decode cX3_drop 1 = .ok (.invokestatic 123, 3) := by decide +kernel
theorem dX3_drop_4 : decode cX3_drop 4 = .ok (.ifCond .ne 5, 3) := by decide +kernel
theorem dX3_drop_7 : decode cX3_drop 7 = .ok (.iconst (-1), 1) := by decide +kernel
theorem dX3_drop_8 : decode cX3_drop 8 = .ok (.ireturn, 1) := by decide +kernel
theorem dX3_drop_9 : decode cX3_drop 9 = .ok (.aload_n 0, 1) := by decide +kernel
theorem dX3_drop_10 : decode cX3_drop 10 = .ok (.getfield 29, 3) := by decide +kernel
theorem dX3_drop_13 : decode cX3_drop 13 = .ok (.iload_n 1, 1) := by decide +kernel
theorem dX3_drop_14 : decode cX3_drop 14 = .ok (.iaload, 1) := by decide +kernel
theorem dX3_drop_15 : decode cX3_drop 15 = .ok (.iconst (-1), 1) := by decide +kernel
theorem dX3_drop_16 : decode cX3_drop 16 = .ok (.if_icmp .ne 7, 3) := by decide +kernel
theorem dX3_drop_19 : decode cX3_drop 19 = .ok (.iconst 0, 1) := by decide +kernel
theorem dX3_drop_20 : decode cX3_drop 20 = .ok (.goto 4, 3) := by decide +kernel
theorem dX3_drop_23 : decode cX3_drop 23 = .ok (.iconst 1, 1) := by decide +kernel
theorem dX3_drop_24 : decode cX3_drop 24 = .ok (.istore_n 2, 1) := by decide +kernel
theorem dX3_drop_25 : decode cX3_drop 25 = .ok (.aload_n 0, 1) := by decide +kernel
theorem dX3_drop_26 : decode cX3_drop 26 = .ok (.getfield 29, 3) := by decide +kernel
theorem dX3_drop_29 : decode cX3_drop 29 = .ok (.iload_n 1, 1) := by decide +kernel
theorem dX3_drop_30 : decode cX3_drop 30 = .ok (.iconst (-1), 1) := by decide +kernel
theorem dX3_drop_31 : decode cX3_drop 31 = .ok (.iastore, 1) := by decide +kernel
theorem dX3_drop_32 : decode cX3_drop 32 = .ok (.iload_n 2, 1) := by decide +kernel
theorem dX3_drop_33 : decode cX3_drop 33 = .ok (.ireturn, 1) := by decide +kernel
theorem dX3_nodes_0 : decode cX3_nodes 0 = .ok (.aload_n 0, 1) := by decide +kernel
theorem dX3_nodes_1 : decode cX3_nodes 1 = .ok (.iload_n 1, 1) := by decide +kernel
theorem dX3_nodes_2 : decode cX3_nodes 2 = .ok (.invokevirtual 139, 3) := by decide +kernel
theorem dX3_nodes_5 : decode cX3_nodes 5 = .ok (.ifCond .ne 5, 3) := by decide +kernel
theorem dX3_nodes_8 : decode cX3_nodes 8 = .ok (.iconst (-1), 1) := by decide +kernel
theorem dX3_nodes_9 : decode cX3_nodes 9 = .ok (.ireturn, 1) := by decide +kernel
theorem dX3_nodes_10 : decode cX3_nodes 10 = .ok (.aload_n 0, 1) := by decide +kernel
theorem dX3_nodes_11 : decode cX3_nodes 11 = .ok (.getfield 25, 3) := by decide +kernel
theorem dX3_nodes_14 : decode cX3_nodes 14 = .ok (.aload_n 0, 1) := by decide +kernel
theorem dX3_nodes_15 : decode cX3_nodes 15 = .ok (.getfield 29, 3) := by decide +kernel
theorem dX3_nodes_18 : decode cX3_nodes 18 = .ok (.iload_n 1, 1) := by decide +kernel
theorem dX3_nodes_19 : decode cX3_nodes 19 = .ok (.iaload, 1) := by decide +kernel
theorem dX3_nodes_20 : decode cX3_nodes 20 = .ok (.invokevirtual 152, 3) := by decide +kernel
theorem dX3_nodes_23 : decode cX3_nodes 23 = .ok (.ireturn, 1) := by decide +kernel
theorem dX3_inUse_0 : decode cX3_inUse 0 = .ok (.aload_n 0, 1) := by decide +kernel
theorem dX3_inUse_1 : decode cX3_inUse 1 = .ok (.invokevirtual 155, 3) := by decide +kernel
theorem dX3_inUse_4 : decode cX3_inUse 4 = .ok (.aload_n 0, 1) := by decide +kernel
theorem dX3_inUse_5 : decode cX3_inUse 5 = .ok (.getfield 25, 3) := by decide +kernel
theorem dX3_inUse_8 : decode cX3_inUse 8 = .ok (.invokevirtual 158, 3) := by decide +kernel
theorem dX3_inUse_11 : decode cX3_inUse 11 = .ok (.ireturn, 1) := by decide +kernel
theorem dX3_common_0 : decode cX3_common 0 = .ok (.aload_n 0, 1) := by decide +kernel
theorem dX3_common_1 : decode cX3_common 1 = .ok (.iload_n 1, 1) := by decide +kernel
theorem dX3_common_2 : decode cX3_common 2 = .ok (.invokevirtual 139, 3) := by decide +kernel
theorem dX3_common_5 : decode cX3_common 5 = .ok (.ifCond .eq 11, 3) := by decide +kernel
theorem dX3_common_8 : decode cX3_common 8 = .ok (.aload_n 0, 1) := by decide +kernel
theorem dX3_common_9 : decode cX3_common 9 = .ok (.iload_n 2, 1) := by decide +kernel
theorem dX3_common_10 : decode cX3_common 10 = .ok (.invokevirtual 139, 3) := by decide +kernel
theorem dX3_common_13 : decode cX3_common 13 = .ok (.ifCond .ne 5, 3) := by decide +kernel
theorem dX3_common_16 : decode cX3_common 16 = .ok (.iconst (-1), 1) := by decide +kernel
theorem dX3_common_17 : decode cX3_common 17 = .ok (.ireturn, 1) := by decide +kernel
theorem dX3_common_18 : decode cX3_common 18 = .ok (.aload_n 0, 1) := by decide +kernel
theorem dX3_common_19 : decode cX3_common 19 = .ok (.getfield 25, 3) := by decide +kernel
theorem dX3_common_22 : decode cX3_common 22 = .ok (.aload_n 0, 1) := by decide +kernel
theorem dX3_common_23 : decode cX3_common 23 = .ok (.getfield 29, 3) := by decide +kernel
theorem dX3_common_26 : decode cX3_common 26 = .ok (.iload_n 1, 1) := by decide +kernel
theorem dX3_common_27 : decode cX3_common 27 = .ok (.iaload, 1) := by decide +kernel
theorem dX3_common_28 : decode cX3_common 28 = .ok (.aload_n 0, 1) := by decide +kernel
theorem dX3_common_29 : decode cX3_common 29 = .ok (.getfield 29, 3) := by decide +kernel
theorem dX3_common_32 : decode cX3_common 32 = .ok (.iload_n 2, 1) := by decide +kernel
theorem dX3_common_33 : decode cX3_common 33 = .ok (.iaload, 1) := by decide +kernel
theorem dX3_common_34 : decode cX3_common 34 = .ok (.invokevirtual 161, 3) := by decide +kernel
theorem dX3_common_37 : decode cX3_common 37 = .ok (.ireturn, 1) := by decide +kernel
theorem dX3_peak_0 : decode cX3_peak 0 = .ok (.aload_n 0, 1) := by decide +kernel
theorem dX3_peak_1 : decode cX3_peak 1 = .ok (.getfield 46, 3) := by decide +kernel
theorem dX3_peak_4 : decode cX3_peak 4 = .ok (.ireturn, 1) := by decide +kernel
theorem dX3_value_0 : decode cX3_value 0 = .ok (.aload_n 0, 1) := by decide +kernel
theorem dX3_value_1 : decode cX3_value 1 = .ok (.iload_n 1, 1) := by decide +kernel
theorem dX3_value_2 : decode cX3_value 2 = .ok (.invokevirtual 139, 3) := by decide +kernel
theorem dX3_value_5 : decode cX3_value 5 = .ok (.ifCond .ne 5, 3) := by decide +kernel
theorem dX3_value_8 : decode cX3_value 8 = .ok (.iconst (-1), 1) := by decide +kernel
theorem dX3_value_9 : decode cX3_value 9 = .ok (.ireturn, 1) := by decide +kernel
theorem dX3_value_10 : decode cX3_value 10 = .ok (.iload_n 2, 1) := by decide +kernel
theorem dX3_value_11 : decode cX3_value 11 = .ok (.invokestatic 91, 3) := by decide +kernel
theorem dX3_value_14 : decode cX3_value 14 = .ok (.ifCond .ne 6, 3) := by decide +kernel
theorem dX3_value_17 : decode cX3_value 17 = .ok (.bipush (-2), 2) := by decide +kernel
theorem dX3_value_19 : decode cX3_value 19 = .ok (.ireturn, 1) := by decide +kernel
theorem dX3_value_20 : decode cX3_value 20 = .ok (.aload_n 0, 1) := by decide +kernel
theorem dX3_value_21 : decode cX3_value 21 = .ok (.getfield 25, 3) := by decide +kernel
theorem dX3_value_24 : decode cX3_value 24 = .ok (.aload_n 0, 1) := by decide +kernel
theorem dX3_value_25 : decode cX3_value 25 = .ok (.getfield 29, 3) := by decide +kernel
theorem dX3_value_28 : decode cX3_value 28 = .ok (.iload_n 1, 1) := by decide +kernel
theorem dX3_value_29 : decode cX3_value 29 = .ok (.iaload, 1) := by decide +kernel
theorem dX3_value_30 : decode cX3_value 30 = .ok (.iload_n 2, 1) := by decide +kernel
theorem dX3_value_31 : decode cX3_value 31 = .ok (.aload_n 0, 1) := by decide +kernel
theorem dX3_value_32 : decode cX3_value 32 = .ok (.getfield 18, 3) := by decide +kernel
theorem dX3_value_35 : decode cX3_value 35 = .ok (.invokevirtual 164, 3) := by decide +kernel
theorem dX3_value_38 : decode cX3_value 38 = .ok (.ireturn, 1) := by decide +kernel
theorem dX3_same_0 : decode cX3_same 0 = .ok (.aload_n 0, 1) := by decide +kernel
theorem dX3_same_1 : decode cX3_same 1 = .ok (.iload_n 1, 1) := by decide +kernel
theorem dX3_same_2 : decode cX3_same 2 = .ok (.invokevirtual 139, 3) := by decide +kernel
theorem dX3_same_5 : decode cX3_same 5 = .ok (.ifCond .eq 11, 3) := by decide +kernel
theorem dX3_same_8 : decode cX3_same 8 = .ok (.aload_n 0, 1) := by decide +kernel
theorem dX3_same_9 : decode cX3_same 9 = .ok (.iload_n 2, 1) := by decide +kernel
theorem dX3_same_10 : decode cX3_same 10 = .ok (.invokevirtual 139, 3) := by decide +kernel
theorem dX3_same_13 : decode cX3_same 13 = .ok (.ifCond .ne 5, 3) := by decide +kernel
theorem dX3_same_16 : decode cX3_same 16 = .ok (.iconst (-1), 1) := by decide +kernel
theorem dX3_same_17 : decode cX3_same 17 = .ok (.ireturn, 1) := by decide +kernel
theorem dX3_same_18 : decode cX3_same 18 = .ok (.aload_n 0, 1) := by decide +kernel
theorem dX3_same_19 : decode cX3_same 19 = .ok (.getfield 29, 3) := by decide +kernel
theorem dX3_same_22 : decode cX3_same 22 = .ok (.iload_n 1, 1) := by decide +kernel
theorem dX3_same_23 : decode cX3_same 23 = .ok (.iaload, 1) := by decide +kernel
theorem dX3_same_24 : decode cX3_same 24 = .ok (.aload_n 0, 1) := by decide +kernel
theorem dX3_same_25 : decode cX3_same 25 = .ok (.getfield 29, 3) := by decide +kernel
theorem dX3_same_28 : decode cX3_same 28 = .ok (.iload_n 2, 1) := by decide +kernel
theorem dX3_same_29 : decode cX3_same 29 = .ok (.iaload, 1) := by decide +kernel
theorem dX3_same_30 : decode cX3_same 30 = .ok (.if_icmp .ne 7, 3) := by decide +kernel
theorem dX3_same_33 : decode cX3_same 33 = .ok (.iconst 1, 1) := by decide +kernel
theorem dX3_same_34 : decode cX3_same 34 = .ok (.goto 4, 3) := by decide +kernel
theorem dX3_same_37 : decode cX3_same 37 = .ok (.iconst 0, 1) := by decide +kernel
theorem dX3_same_38 : decode cX3_same 38 = .ok (.ireturn, 1) := by decide +kernel
theorem dX3_count_0 : decode cX3_count 0 = .ok (.aload_n 0, 1) := by decide +kernel
theorem dX3_count_1 : decode cX3_count 1 = .ok (.iload_n 1, 1) := by decide +kernel
theorem dX3_count_2 : decode cX3_count 2 = .ok (.invokevirtual 139, 3) := by decide +kernel
theorem dX3_count_5 : decode cX3_count 5 = .ok (.ifCond .ne 5, 3) := by decide +kernel
theorem dX3_count_8 : decode cX3_count 8 = .ok (.iconst (-1), 1) := by decide +kernel
theorem dX3_count_9 : decode cX3_count 9 = .ok (.ireturn, 1) := by decide +kernel
theorem dX3_count_10 : decode cX3_count 10 = .ok (.iconst 0, 1) := by decide +kernel
theorem dX3_count_11 : decode cX3_count 11 = .ok (.istore_n 2, 1) := by decide +kernel
theorem dX3_count_12 : decode cX3_count 12 = .ok (.iconst 0, 1) := by decide +kernel
theorem dX3_count_13 : decode cX3_count 13 = .ok (.istore_n 3, 1) := by decide +kernel
theorem dX3_count_14 : decode cX3_count 14 = .ok (.iload_n 3, 1) := by decide +kernel
theorem dX3_count_15 : decode cX3_count 15 = .ok (.sipush 256, 3) := by decide +kernel
theorem dX3_count_18 : decode cX3_count 18 = .ok (.if_icmp .ge 30, 3) := by decide +kernel
theorem dX3_count_21 : decode cX3_count 21 = .ok (.iload_n 2, 1) := by decide +kernel
theorem dX3_count_22 : decode cX3_count 22 = .ok (.aload_n 0, 1) := by decide +kernel
theorem dX3_count_23 : decode cX3_count 23 = .ok (.getfield 25, 3) := by decide +kernel
theorem dX3_count_26 : decode cX3_count 26 = .ok (.aload_n 0, 1) := by decide +kernel
theorem dX3_count_27 : decode cX3_count 27 = .ok (.getfield 29, 3) := by decide +kernel
theorem dX3_count_30 : decode cX3_count 30 = .ok (.iload_n 1, 1) := by decide +kernel
theorem dX3_count_31 : decode cX3_count 31 = .ok (.iaload, 1) := by decide +kernel
theorem dX3_count_32 : decode cX3_count 32 = .ok (.iload_n 3, 1) := by decide +kernel
theorem dX3_count_33 : decode cX3_count 33 = .ok (.aload_n 0, 1) := by decide +kernel
theorem dX3_count_34 : decode cX3_count 34 = .ok (.getfield 18, 3) := by decide +kernel
theorem dX3_count_37 : decode cX3_count 37 = .ok (.invokevirtual 164, 3) := by decide +kernel
theorem dX3_count_40 : decode cX3_count 40 = .ok (.iadd, 1) := by decide +kernel
theorem dX3_count_41 : decode cX3_count 41 = .ok (.istore_n 2, 1) := by decide +kernel
theorem dX3_count_42 : decode cX3_count 42 = .ok (.iinc 3 1, 3) := by decide +kernel
theorem dX3_count_45 : decode cX3_count 45 = .ok (.goto (-31), 3) := by decide +kernel
theorem dX3_count_48 : decode cX3_count 48 = .ok (.iload_n 2, 1) := by decide +kernel
theorem dX3_count_49 : decode cX3_count 49 = .ok (.ireturn, 1) := by decide +kernel
theorem dX3_support_0 : decode cX3_support 0 = .ok (.aload_n 0, 1) := by decide +kernel
theorem dX3_support_1 : decode cX3_support 1 = .ok (.iload_n 1, 1) := by decide +kernel
theorem dX3_support_2 : decode cX3_support 2 = .ok (.invokevirtual 139, 3) := by decide +kernel
theorem dX3_support_5 : decode cX3_support 5 = .ok (.ifCond .ne 5, 3) := by decide +kernel
theorem dX3_support_8 : decode cX3_support 8 = .ok (.iconst (-1), 1) := by decide +kernel
theorem dX3_support_9 : decode cX3_support 9 = .ok (.ireturn, 1) := by decide +kernel
theorem dX3_support_10 : decode cX3_support 10 = .ok (.iconst 0, 1) := by decide +kernel
theorem dX3_support_11 : decode cX3_support 11 = .ok (.istore_n 2, 1) := by decide +kernel
theorem dX3_support_12 : decode cX3_support 12 = .ok (.iconst 0, 1) := by decide +kernel
theorem dX3_support_13 : decode cX3_support 13 = .ok (.istore_n 3, 1) := by decide +kernel
theorem dX3_support_14 : decode cX3_support 14 = .ok (.iload_n 3, 1) := by decide +kernel
theorem dX3_support_15 : decode cX3_support 15 = .ok (.bipush 8, 2) := by decide +kernel
theorem dX3_support_17 : decode cX3_support 17 = .ok (.if_icmp .ge 39, 3) := by decide +kernel
theorem dX3_support_20 : decode cX3_support 20 = .ok (.aload_n 0, 1) := by decide +kernel
theorem dX3_support_21 : decode cX3_support 21 = .ok (.getfield 25, 3) := by decide +kernel
theorem dX3_support_24 : decode cX3_support 24 = .ok (.aload_n 0, 1) := by decide +kernel
theorem dX3_support_25 : decode cX3_support 25 = .ok (.getfield 29, 3) := by decide +kernel
theorem dX3_support_28 : decode cX3_support 28 = .ok (.iload_n 1, 1) := by decide +kernel
theorem dX3_support_29 : decode cX3_support 29 = .ok (.iaload, 1) := by decide +kernel
theorem dX3_support_30 : decode cX3_support 30 = .ok (.iload_n 3, 1) := by decide +kernel
theorem dX3_support_31 : decode cX3_support 31 = .ok (.invokevirtual 168, 3) := by decide +kernel
theorem dX3_support_34 : decode cX3_support 34 = .ok (.ifCond .le 16, 3) := by decide +kernel
theorem dX3_support_37 : decode cX3_support 37 = .ok (.iload_n 2, 1) := by decide +kernel
theorem dX3_support_38 : decode cX3_support 38 = .ok (.iconst 1, 1) := by decide +kernel
theorem dX3_support_39 : decode cX3_support 39 = .ok (.aload_n 0, 1) := by decide +kernel
theorem dX3_support_40 : decode cX3_support 40 = .ok (.getfield 18, 3) := by decide +kernel
theorem dX3_support_43 : decode cX3_support 43 = .ok (.iload_n 3, 1) := by decide +kernel
theorem dX3_support_44 : decode cX3_support 44 = .ok (.invokevirtual 114, 3) := by decide +kernel
theorem dX3_support_47 : decode cX3_support 47 = .ok (.ishl, 1) := by decide +kernel
theorem dX3_support_48 : decode cX3_support 48 = .ok (.ior, 1) := by decide +kernel
theorem dX3_support_49 : decode cX3_support 49 = .ok (.istore_n 2, 1) := by decide +kernel
theorem dX3_support_50 : decode cX3_support 50 = .ok (.iinc 3 1, 3) := by decide +kernel
theorem dX3_support_53 : decode cX3_support 53 = .ok (.goto (-39), 3) := by decide +kernel
theorem dX3_support_56 : decode cX3_support 56 = .ok (.iload_n 2, 1) := by decide +kernel
theorem dX3_support_57 : decode cX3_support 57 = .ok (.ireturn, 1) := by decide +kernel
theorem dX3_top_0 : decode cX3_top 0 = .ok (.aload_n 0, 1) := by decide +kernel
theorem dX3_top_1 : decode cX3_top 1 = .ok (.iload_n 1, 1) := by decide +kernel
theorem dX3_top_2 : decode cX3_top 2 = .ok (.invokevirtual 139, 3) := by decide +kernel
theorem dX3_top_5 : decode cX3_top 5 = .ok (.ifCond .ne 5, 3) := by decide +kernel
theorem dX3_top_8 : decode cX3_top 8 = .ok (.iconst (-1), 1) := by decide +kernel
theorem dX3_top_9 : decode cX3_top 9 = .ok (.ireturn, 1) := by decide +kernel
theorem dX3_top_10 : decode cX3_top 10 = .ok (.aload_n 0, 1) := by decide +kernel
theorem dX3_top_11 : decode cX3_top 11 = .ok (.getfield 25, 3) := by decide +kernel
theorem dX3_top_14 : decode cX3_top 14 = .ok (.aload_n 0, 1) := by decide +kernel
theorem dX3_top_15 : decode cX3_top 15 = .ok (.getfield 29, 3) := by decide +kernel
theorem dX3_top_18 : decode cX3_top 18 = .ok (.iload_n 1, 1) := by decide +kernel
theorem dX3_top_19 : decode cX3_top 19 = .ok (.iaload, 1) := by decide +kernel
theorem dX3_top_20 : decode cX3_top 20 = .ok (.invokevirtual 171, 3) := by decide +kernel
theorem dX3_top_23 : decode cX3_top 23 = .ok (.istore_n 2, 1) := by decide +kernel
theorem dX3_top_24 : decode cX3_top 24 = .ok (.iload_n 2, 1) := by decide +kernel
theorem dX3_top_25 : decode cX3_top 25 = .ok (.bipush 8, 2) := by decide +kernel
theorem dX3_top_27 : decode cX3_top 27 = .ok (.if_icmp .ge 14, 3) := by decide +kernel
theorem dX3_top_30 : decode cX3_top 30 = .ok (.aload_n 0, 1) := by decide +kernel
theorem dX3_top_31 : decode cX3_top 31 = .ok (.getfield 18, 3) := by decide +kernel
theorem dX3_top_34 : decode cX3_top 34 = .ok (.iload_n 2, 1) := by decide +kernel
theorem dX3_top_35 : decode cX3_top 35 = .ok (.invokevirtual 114, 3) := by decide +kernel
theorem dX3_top_38 : decode cX3_top 38 = .ok (.goto 5, 3) := by decide +kernel
theorem dX3_top_41 : decode cX3_top 41 = .ok (.bipush (-9), 2) := by decide +kernel
theorem dX3_top_43 : decode cX3_top 43 = .ok (.ireturn, 1) := by decide +kernel
theorem dX3_level_0 : decode cX3_level 0 = .ok (.aload_n 0, 1) := by decide +kernel
theorem dX3_level_1 : decode cX3_level 1 = .ok (.iload_n 1, 1) := by decide +kernel
theorem dX3_level_2 : decode cX3_level 2 = .ok (.invokevirtual 139, 3) := by decide +kernel
theorem dX3_level_5 : decode cX3_level 5 = .ok (.ifCond .ne 5, 3) := by decide +kernel
theorem dX3_level_8 : decode cX3_level 8 = .ok (.iconst (-1), 1) := by decide +kernel
theorem dX3_level_9 : decode cX3_level 9 = .ok (.ireturn, 1) := by decide +kernel
theorem dX3_level_10 : decode cX3_level 10 = .ok (.iload_n 2, 1) := by decide +kernel
theorem dX3_level_11 : decode cX3_level 11 = .ok (.invokestatic 70, 3) := by decide +kernel
theorem dX3_level_14 : decode cX3_level 14 = .ok (.ifCond .ne 6, 3) := by decide +kernel
theorem dX3_level_17 : decode cX3_level 17 = .ok (.bipush (-2), 2) := by decide +kernel
theorem dX3_level_19 : decode cX3_level 19 = .ok (.ireturn, 1) := by decide +kernel
theorem dX3_level_20 : decode cX3_level 20 = .ok (.aload_n 0, 1) := by decide +kernel
theorem dX3_level_21 : decode cX3_level 21 = .ok (.getfield 25, 3) := by decide +kernel
theorem dX3_level_24 : decode cX3_level 24 = .ok (.aload_n 0, 1) := by decide +kernel
theorem dX3_level_25 : decode cX3_level 25 = .ok (.getfield 29, 3) := by decide +kernel
theorem dX3_level_28 : decode cX3_level 28 = .ok (.iload_n 1, 1) := by decide +kernel
theorem dX3_level_29 : decode cX3_level 29 = .ok (.iaload, 1) := by decide +kernel
theorem dX3_level_30 : decode cX3_level 30 = .ok (.aload_n 0, 1) := by decide +kernel
theorem dX3_level_31 : decode cX3_level 31 = .ok (.getfield 18, 3) := by decide +kernel
theorem dX3_level_34 : decode cX3_level 34 = .ok (.iload_n 2, 1) := by decide +kernel
theorem dX3_level_35 : decode cX3_level 35 = .ok (.invokevirtual 174, 3) := by decide +kernel
theorem dX3_level_38 : decode cX3_level 38 = .ok (.invokevirtual 168, 3) := by decide +kernel
theorem dX3_level_41 : decode cX3_level 41 = .ok (.ireturn, 1) := by decide +kernel
theorem dX3_least_0 : decode cX3_least 0 = .ok (.aload_n 0, 1) := by decide +kernel
theorem dX3_least_1 : decode cX3_least 1 = .ok (.iload_n 1, 1) := by decide +kernel
theorem dX3_least_2 : decode cX3_least 2 = .ok (.invokevirtual 139, 3) := by decide +kernel
theorem dX3_least_5 : decode cX3_least 5 = .ok (.ifCond .ne 5, 3) := by decide +kernel
theorem dX3_least_8 : decode cX3_least 8 = .ok (.iconst (-1), 1) := by decide +kernel
theorem dX3_least_9 : decode cX3_least 9 = .ok (.ireturn, 1) := by decide +kernel
theorem dX3_least_10 : decode cX3_least 10 = .ok (.aload_n 0, 1) := by decide +kernel
theorem dX3_least_11 : decode cX3_least 11 = .ok (.getfield 25, 3) := by decide +kernel
theorem dX3_least_14 : decode cX3_least 14 = .ok (.aload_n 0, 1) := by decide +kernel
theorem dX3_least_15 : decode cX3_least 15 = .ok (.getfield 29, 3) := by decide +kernel
theorem dX3_least_18 : decode cX3_least 18 = .ok (.iload_n 1, 1) := by decide +kernel
theorem dX3_least_19 : decode cX3_least 19 = .ok (.iaload, 1) := by decide +kernel
theorem dX3_least_20 : decode cX3_least 20 = .ok (.iload_n 2, 1) := by decide +kernel
theorem dX3_least_21 : decode cX3_least 21 = .ok (.ifCond .eq 7, 3) := by decide +kernel
theorem dX3_least_24 : decode cX3_least 24 = .ok (.iconst 1, 1) := by decide +kernel
theorem dX3_least_25 : decode cX3_least 25 = .ok (.goto 4, 3) := by decide +kernel
theorem dX3_least_28 : decode cX3_least 28 = .ok (.iconst 0, 1) := by decide +kernel
theorem dX3_least_29 : decode cX3_least 29 = .ok (.aload_n 0, 1) := by decide +kernel
theorem dX3_least_30 : decode cX3_least 30 = .ok (.getfield 18, 3) := by decide +kernel
theorem dX3_least_33 : decode cX3_least 33 = .ok (.invokevirtual 175, 3) := by decide +kernel
theorem dX3_least_36 : decode cX3_least 36 = .ok (.ireturn, 1) := by decide +kernel
theorem dX3_paths_0 : decode cX3_paths 0 = .ok (.aload_n 0, 1) := by decide +kernel
theorem dX3_paths_1 : decode cX3_paths 1 = .ok (.iload_n 1, 1) := by decide +kernel
theorem dX3_paths_2 : decode cX3_paths 2 = .ok (.invokevirtual 139, 3) := by decide +kernel
theorem dX3_paths_5 : decode cX3_paths 5 = .ok (.ifCond .ne 5, 3) := by decide +kernel
theorem dX3_paths_8 : decode cX3_paths 8 = .ok (.iconst (-1), 1) := by decide +kernel
theorem dX3_paths_9 : decode cX3_paths 9 = .ok (.ireturn, 1) := by decide +kernel
theorem dX3_paths_10 : decode cX3_paths 10 = .ok (.aload_n 0, 1) := by decide +kernel
theorem dX3_paths_11 : decode cX3_paths 11 = .ok (.getfield 25, 3) := by decide +kernel
theorem dX3_paths_14 : decode cX3_paths 14 = .ok (.aload_n 0, 1) := by decide +kernel
theorem dX3_paths_15 : decode cX3_paths 15 = .ok (.getfield 29, 3) := by decide +kernel
theorem dX3_paths_18 : decode cX3_paths 18 = .ok (.iload_n 1, 1) := by decide +kernel
theorem dX3_paths_19 : decode cX3_paths 19 = .ok (.iaload, 1) := by decide +kernel
theorem dX3_paths_20 : decode cX3_paths 20 = .ok (.iload_n 2, 1) := by decide +kernel
theorem dX3_paths_21 : decode cX3_paths 21 = .ok (.ifCond .eq 7, 3) := by decide +kernel
theorem dX3_paths_24 : decode cX3_paths 24 = .ok (.iconst 1, 1) := by decide +kernel
theorem dX3_paths_25 : decode cX3_paths 25 = .ok (.goto 4, 3) := by decide +kernel
theorem dX3_paths_28 : decode cX3_paths 28 = .ok (.iconst 0, 1) := by decide +kernel
theorem dX3_paths_29 : decode cX3_paths 29 = .ok (.invokevirtual 178, 3) := by decide +kernel
theorem dX3_paths_32 : decode cX3_paths 32 = .ok (.ireturn, 1) := by decide +kernel
theorem dX3_equal_0 : decode cX3_equal 0 = .ok (.iload_n 1, 1) := by decide +kernel
theorem dX3_equal_1 : decode cX3_equal 1 = .ok (.invokestatic 62, 3) := by decide +kernel
theorem dX3_equal_4 : decode cX3_equal 4 = .ok (.ifCond .eq 10, 3) := by decide +kernel
theorem dX3_equal_7 : decode cX3_equal 7 = .ok (.iload_n 2, 1) := by decide +kernel
theorem dX3_equal_8 : decode cX3_equal 8 = .ok (.invokestatic 62, 3) := by decide +kernel
theorem dX3_equal_11 : decode cX3_equal 11 = .ok (.ifCond .ne 5, 3) := by decide +kernel
theorem dX3_equal_14 : decode cX3_equal 14 = .ok (.iconst (-1), 1) := by decide +kernel
theorem dX3_equal_15 : decode cX3_equal 15 = .ok (.ireturn, 1) := by decide +kernel
theorem dX3_equal_16 : decode cX3_equal 16 = .ok (.aload_n 0, 1) := by decide +kernel
theorem dX3_equal_17 : decode cX3_equal 17 = .ok (.getfield 11, 3) := by decide +kernel
theorem dX3_equal_20 : decode cX3_equal 20 = .ok (.iload_n 1, 1) := by decide +kernel
theorem dX3_equal_21 : decode cX3_equal 21 = .ok (.aaload, 1) := by decide +kernel
theorem dX3_equal_22 : decode cX3_equal 22 = .ok (.invokevirtual 181, 3) := by decide +kernel
theorem dX3_equal_25 : decode cX3_equal 25 = .ok (.istore_n 3, 1) := by decide +kernel
theorem dX3_equal_26 : decode cX3_equal 26 = .ok (.iload_n 3, 1) := by decide +kernel
theorem dX3_equal_27 : decode cX3_equal 27 = .ok (.aload_n 0, 1) := by decide +kernel
theorem dX3_equal_28 : decode cX3_equal 28 = .ok (.getfield 11, 3) := by decide +kernel
theorem dX3_equal_31 : decode cX3_equal 31 = .ok (.iload_n 2, 1) := by decide +kernel
theorem dX3_equal_32 : decode cX3_equal 32 = .ok (.aaload, 1) := by decide +kernel
theorem dX3_equal_33 : decode cX3_equal 33 = .ok (.invokevirtual 181, 3) := by decide +kernel
theorem dX3_equal_36 : decode cX3_equal 36 = .ok (.if_icmp .eq 6, 3) := by decide +kernel
theorem dX3_equal_39 : decode cX3_equal 39 = .ok (.bipush (-3), 2) := by decide +kernel
theorem dX3_equal_41 : decode cX3_equal 41 = .ok (.ireturn, 1) := by decide +kernel
theorem dX3_equal_42 : decode cX3_equal 42 = .ok (.iload_n 3, 1) := by decide +kernel
theorem dX3_equal_43 : decode cX3_equal 43 = .ok (.ifCond .le 7, 3) := by decide +kernel
theorem dX3_equal_46 : decode cX3_equal 46 = .ok (.aload_n 0, 1) := by decide +kernel
theorem dX3_equal_47 : decode cX3_equal 47 = .ok (.invokevirtual 126, 3) := by decide +kernel
theorem dX3_equal_50 : decode cX3_equal 50 = .ok (.iconst 0, 1) := by decide +kernel
theorem dX3_equal_51 : decode cX3_equal 51 = .ok (.istore 4, 2) := by decide +kernel
theorem dX3_equal_53 : decode cX3_equal 53 = .ok (.iconst 0, 1) := by decide +kernel
theorem dX3_equal_54 : decode cX3_equal 54 = .ok (.istore 5, 2) := by decide +kernel
theorem dX3_equal_56 : decode cX3_equal 56 = .ok (.iload 5, 2) := by decide +kernel
theorem dX3_equal_58 : decode cX3_equal 58 = .ok (.iload_n 3, 1) := by decide +kernel
theorem dX3_equal_59 : decode cX3_equal 59 = .ok (.if_icmp .ge 73, 3) := by decide +kernel
theorem dX3_equal_62 : decode cX3_equal 62 = .ok (.iload 4, 2) := by decide +kernel
theorem dX3_equal_64 : decode cX3_equal 64 = .ok (.ifCond .ne 68, 3) := by decide +kernel
theorem dX3_equal_67 : decode cX3_equal 67 = .ok (.aload_n 0, 1) := by decide +kernel
theorem dX3_equal_68 : decode cX3_equal 68 = .ok (.aload_n 0, 1) := by decide +kernel
theorem dX3_equal_69 : decode cX3_equal 69 = .ok (.getfield 11, 3) := by decide +kernel
theorem dX3_equal_72 : decode cX3_equal 72 = .ok (.iload_n 1, 1) := by decide +kernel
theorem dX3_equal_73 : decode cX3_equal 73 = .ok (.aaload, 1) := by decide +kernel
theorem dX3_equal_74 : decode cX3_equal 74 = .ok (.iload 5, 2) := by decide +kernel
theorem dX3_equal_76 : decode cX3_equal 76 = .ok (.invokevirtual 129, 3) := by decide +kernel
theorem dX3_equal_79 : decode cX3_equal 79 = .ok (.istore 6, 2) := by decide +kernel
theorem dX3_equal_81 : decode cX3_equal 81 = .ok (.iload 6, 2) := by decide +kernel
theorem dX3_equal_83 : decode cX3_equal 83 = .ok (.iconst (-1), 1) := by decide +kernel
theorem dX3_equal_84 : decode cX3_equal 84 = .ok (.if_icmp .ne 7, 3) := by decide +kernel
theorem dX3_equal_87 : decode cX3_equal 87 = .ok (.iconst (-1), 1) := by decide +kernel
theorem dX3_equal_88 : decode cX3_equal 88 = .ok (.goto 15, 3) := by decide +kernel
theorem dX3_equal_91 : decode cX3_equal 91 = .ok (.aload_n 0, 1) := by decide +kernel
theorem dX3_equal_92 : decode cX3_equal 92 = .ok (.aload_n 0, 1) := by decide +kernel
theorem dX3_equal_93 : decode cX3_equal 93 = .ok (.getfield 11, 3) := by decide +kernel
theorem dX3_equal_96 : decode cX3_equal 96 = .ok (.iload_n 2, 1) := by decide +kernel
theorem dX3_equal_97 : decode cX3_equal 97 = .ok (.aaload, 1) := by decide +kernel
theorem dX3_equal_98 : decode cX3_equal 98 = .ok (.iload 5, 2) := by decide +kernel
theorem dX3_equal_100 : decode cX3_equal 100 = .ok (.invokevirtual 129, 3) := by decide +kernel
theorem dX3_equal_103 : decode cX3_equal 103 = .ok (.istore 7, 2) := by decide +kernel
theorem dX3_equal_105 : decode cX3_equal 105 = .ok (.aload_n 0, 1) := by decide +kernel
theorem dX3_equal_106 : decode cX3_equal 106 = .ok (.bipush 6, 2) := by decide +kernel
theorem dX3_equal_108 : decode cX3_equal 108 = .ok (.iload 6, 2) := by decide +kernel
theorem dX3_equal_110 : decode cX3_equal 110 = .ok (.iload 7, 2) := by decide +kernel
theorem dX3_equal_112 : decode cX3_equal 112 = .ok (.iconst 0, 1) := by decide +kernel
theorem dX3_equal_113 : decode cX3_equal 113 = .ok (.invokevirtual 142, 3) := by decide +kernel
theorem dX3_equal_116 : decode cX3_equal 116 = .ok (.istore 4, 2) := by decide +kernel
theorem dX3_equal_118 : decode cX3_equal 118 = .ok (.aload_n 0, 1) := by decide +kernel
theorem dX3_equal_119 : decode cX3_equal 119 = .ok (.iload 5, 2) := by decide +kernel
theorem dX3_equal_121 : decode cX3_equal 121 = .ok (.iload 4, 2) := by decide +kernel
theorem dX3_equal_123 : decode cX3_equal 123 = .ok (.invokevirtual 184, 3) := by decide +kernel
theorem dX3_equal_126 : decode cX3_equal 126 = .ok (.iinc 5 1, 3) := by decide +kernel
theorem dX3_equal_129 : decode cX3_equal 129 = .ok (.goto (-73), 3) := by decide +kernel
theorem dX3_equal_132 : decode cX3_equal 132 = .ok (.aload_n 0, 1) := by decide +kernel
theorem dX3_equal_133 : decode cX3_equal 133 = .ok (.invokevirtual 188, 3) := by decide +kernel
theorem dX3_equal_136 : decode cX3_equal 136 = .ok (.iload 4, 2) := by decide +kernel
theorem dX3_equal_138 : decode cX3_equal 138 = .ok (.iconst (-1), 1) := by decide +kernel
theorem dX3_equal_139 : decode cX3_equal 139 = .ok (.if_icmp .ne 8, 3) := by decide +kernel
theorem dX3_equal_142 : decode cX3_equal 142 = .ok (.bipush (-5), 2) := by decide +kernel
theorem dX3_equal_144 : decode cX3_equal 144 = .ok (.goto 13, 3) := by decide +kernel
theorem dX3_equal_147 : decode cX3_equal 147 = .ok (.iload 4, 2) := by decide +kernel
theorem dX3_equal_149 : decode cX3_equal 149 = .ok (.ifCond .ne 7, 3) := by decide +kernel
theorem dX3_equal_152 : decode cX3_equal 152 = .ok (.iconst 1, 1) := by decide +kernel
theorem dX3_equal_153 : decode cX3_equal 153 = .ok (.goto 4, 3) := by decide +kernel
theorem dX3_equal_156 : decode cX3_equal 156 = .ok (.iconst 0, 1) := by decide +kernel
theorem dX3_equal_157 : decode cX3_equal 157 = .ok (.ireturn, 1) := by decide +kernel
theorem dX3_parting_0 : decode cX3_parting 0 = .ok (.iload_n 1, 1) := by decide +kernel
theorem dX3_parting_1 : decode cX3_parting 1 = .ok (.ifCond .lt 8, 3) := by decide +kernel
theorem dX3_parting_4 : decode cX3_parting 4 = .ok (.iload_n 1, 1) := by decide +kernel
theorem dX3_parting_5 : decode cX3_parting 5 = .ok (.iconst 1, 1) := by decide +kernel
theorem dX3_parting_6 : decode cX3_parting 6 = .ok (.if_icmp .le 6, 3) := by decide +kernel
theorem dX3_parting_9 : decode cX3_parting 9 = .ok (.bipush (-2), 2) := by decide +kernel
theorem dX3_parting_11 : decode cX3_parting 11 = .ok (.ireturn, 1) := by decide +kernel
theorem dX3_parting_12 : decode cX3_parting 12 = .ok (.iload_n 1, 1) := by decide +kernel
theorem dX3_parting_13 : decode cX3_parting 13 = .ok (.ifCond .ne 10, 3) := by decide +kernel
theorem dX3_parting_16 : decode cX3_parting 16 = .ok (.aload_n 0, 1) := by decide +kernel
theorem dX3_parting_17 : decode cX3_parting 17 = .ok (.getfield 49, 3) := by decide +kernel
theorem dX3_parting_20 : decode cX3_parting 20 = .ok (.goto 7, 3) := by decide +kernel
theorem dX3_parting_23 : decode cX3_parting 23 = .ok (.aload_n 0, 1) := by decide +kernel
theorem dX3_parting_24 : decode cX3_parting 24 = .ok (.getfield 52, 3) := by decide +kernel
theorem dX3_parting_27 : decode cX3_parting 27 = .ok (.ireturn, 1) := by decide +kernel
theorem dX3_told_0 : decode cX3_told 0 = .ok (.iload_n 1, 1) := by decide +kernel
theorem dX3_told_1 : decode cX3_told 1 = .ok (.ifCond .lt 9, 3) := by decide +kernel
theorem dX3_told_4 : decode cX3_told 4 = .ok (.iload_n 1, 1) := by decide +kernel
theorem dX3_told_5 : decode cX3_told 5 = .ok (.bipush 7, 2) := by decide +kernel
theorem dX3_told_7 : decode cX3_told 7 = .ok (.if_icmp .le 6, 3) := by decide +kernel
theorem dX3_told_10 : decode cX3_told 10 = .ok (.bipush (-2), 2) := by decide +kernel
theorem dX3_told_12 : decode cX3_told 12 = .ok (.ireturn, 1) := by decide +kernel
theorem dX3_told_13 : decode cX3_told 13 = .ok (.iload_n 1, 1) := by decide +kernel
theorem dX3_told_14 : decode cX3_told 14 = .ok (.iconst 3, 1) := by decide +kernel
theorem dX3_told_15 : decode cX3_told 15 = .ok (.if_icmp .ge 13, 3) := by decide +kernel
theorem dX3_told_18 : decode cX3_told 18 = .ok (.aload_n 0, 1) := by decide +kernel
theorem dX3_told_19 : decode cX3_told 19 = .ok (.getfield 11, 3) := by decide +kernel
theorem dX3_told_22 : decode cX3_told 22 = .ok (.iload_n 1, 1) := by decide +kernel
theorem dX3_told_23 : decode cX3_told 23 = .ok (.aaload, 1) := by decide +kernel
theorem dX3_told_24 : decode cX3_told 24 = .ok (.invokevirtual 191, 3) := by decide +kernel
theorem dX3_told_27 : decode cX3_told 27 = .ok (.ireturn, 1) := by decide +kernel
theorem dX3_told_28 : decode cX3_told 28 = .ok (.iload_n 1, 1) := by decide +kernel
theorem dX3_told_29 : decode cX3_told 29 = .ok (.bipush 6, 2) := by decide +kernel
theorem dX3_told_31 : decode cX3_told 31 = .ok (.if_icmp .ge 15, 3) := by decide +kernel
theorem dX3_told_34 : decode cX3_told 34 = .ok (.aload_n 0, 1) := by decide +kernel
theorem dX3_told_35 : decode cX3_told 35 = .ok (.getfield 11, 3) := by decide +kernel
theorem dX3_told_38 : decode cX3_told 38 = .ok (.iload_n 1, 1) := by decide +kernel
theorem dX3_told_39 : decode cX3_told 39 = .ok (.iconst 3, 1) := by decide +kernel
theorem dX3_told_40 : decode cX3_told 40 = .ok (.isub, 1) := by decide +kernel
theorem dX3_told_41 : decode cX3_told 41 = .ok (.aaload, 1) := by decide +kernel
theorem dX3_told_42 : decode cX3_told 42 = .ok (.invokevirtual 181, 3) := by decide +kernel
theorem dX3_told_45 : decode cX3_told 45 = .ok (.ireturn, 1) := by decide +kernel
theorem dX3_told_46 : decode cX3_told 46 = .ok (.iload_n 1, 1) := by decide +kernel
theorem dX3_told_47 : decode cX3_told 47 = .ok (.bipush 6, 2) := by decide +kernel
theorem dX3_told_49 : decode cX3_told 49 = .ok (.if_icmp .ne 10, 3) := by decide +kernel
theorem dX3_told_52 : decode cX3_told 52 = .ok (.aload_n 0, 1) := by decide +kernel
theorem dX3_told_53 : decode cX3_told 53 = .ok (.invokevirtual 98, 3) := by decide +kernel
theorem dX3_told_56 : decode cX3_told 56 = .ok (.goto 10, 3) := by decide +kernel
theorem dX3_told_59 : decode cX3_told 59 = .ok (.aload_n 0, 1) := by decide +kernel
theorem dX3_told_60 : decode cX3_told 60 = .ok (.getfield 25, 3) := by decide +kernel
theorem dX3_told_63 : decode cX3_told 63 = .ok (.invokevirtual 194, 3) := by decide +kernel
theorem dX3_told_66 : decode cX3_told 66 = .ok (.ireturn, 1) := by decide +kernel
theorem dX3_isNet_0 : decode cX3_isNet 0 = .ok (.iload_n 0, 1) := by decide +kernel
theorem dX3_isNet_1 : decode cX3_isNet 1 = .ok (.ifCond .lt 12, 3) := by decide +kernel
theorem dX3_isNet_4 : decode cX3_isNet 4 = .ok (.iload_n 0, 1) := by decide +kernel
theorem dX3_isNet_5 : decode cX3_isNet 5 = .ok (.iconst 3, 1) := by decide +kernel
theorem dX3_isNet_6 : decode cX3_isNet 6 = .ok (.if_icmp .ge 7, 3) := by decide +kernel
theorem dX3_isNet_9 : decode cX3_isNet 9 = .ok (.iconst 1, 1) := by decide +kernel
theorem dX3_isNet_10 : decode cX3_isNet 10 = .ok (.goto 4, 3) := by decide +kernel
theorem dX3_isNet_13 : decode cX3_isNet 13 = .ok (.iconst 0, 1) := by decide +kernel
theorem dX3_isNet_14 : decode cX3_isNet 14 = .ok (.ireturn, 1) := by decide +kernel
theorem dX3_isVariable_0 : decode cX3_isVariable 0 = .ok (.iload_n 0, 1) := by decide +kernel
theorem dX3_isVariable_1 : decode cX3_isVariable 1 = .ok (.ifCond .lt 13, 3) := by decide +kernel
theorem dX3_isVariable_4 : decode cX3_isVariable 4 = .ok (.iload_n 0, 1) := by decide +kernel
theorem dX3_isVariable_5 : decode cX3_isVariable 5 = .ok (.bipush 8, 2) := by decide +kernel
theorem dX3_isVariable_7 : decode cX3_isVariable 7 = .ok (.if_icmp .ge 7, 3) := by decide +kernel
theorem dX3_isVariable_10 : decode cX3_isVariable 10 = .ok (.iconst 1, 1) := by decide +kernel
theorem dX3_isVariable_11 : decode cX3_isVariable 11 = .ok (.goto 4, 3) := by decide +kernel
theorem dX3_isVariable_14 : decode cX3_isVariable 14 = .ok (.iconst 0, 1) := by decide +kernel
theorem dX3_isVariable_15 : decode cX3_isVariable 15 = .ok (.ireturn, 1) := by decide +kernel
theorem dX3_isAssignment_0 : decode cX3_isAssignment 0 = .ok (.iload_n 0, 1) := by decide +kernel
theorem dX3_isAssignment_1 : decode cX3_isAssignment 1 = .ok (.ifCond .lt 14, 3) := by decide +kernel
theorem dX3_isAssignment_4 : decode cX3_isAssignment 4 = .ok (.iload_n 0, 1) := by decide +kernel
theorem dX3_isAssignment_5 : decode cX3_isAssignment 5 = .ok (.sipush 256, 3) := by decide +kernel
theorem dX3_isAssignment_8 : decode cX3_isAssignment 8 = .ok (.if_icmp .ge 7, 3) := by decide +kernel
theorem dX3_isAssignment_11 : decode cX3_isAssignment 11 = .ok (.iconst 1, 1) := by decide +kernel
theorem dX3_isAssignment_12 : decode cX3_isAssignment 12 = .ok (.goto 4, 3) := by decide +kernel
theorem dX3_isAssignment_15 : decode cX3_isAssignment 15 = .ok (.iconst 0, 1) := by decide +kernel
theorem dX3_isAssignment_16 : decode cX3_isAssignment 16 = .ok (.ireturn, 1) := by decide +kernel
theorem dX3_isHandle_0 : decode cX3_isHandle 0 = .ok (.iload_n 0, 1) := by decide +kernel
theorem dX3_isHandle_1 : decode cX3_isHandle 1 = .ok (.ifCond .lt 13, 3) := by decide +kernel
theorem dX3_isHandle_4 : decode cX3_isHandle 4 = .ok (.iload_n 0, 1) := by decide +kernel
theorem dX3_isHandle_5 : decode cX3_isHandle 5 = .ok (.bipush 12, 2) := by decide +kernel
theorem dX3_isHandle_7 : decode cX3_isHandle 7 = .ok (.if_icmp .ge 7, 3) := by decide +kernel
theorem dX3_isHandle_10 : decode cX3_isHandle 10 = .ok (.iconst 1, 1) := by decide +kernel
theorem dX3_isHandle_11 : decode cX3_isHandle 11 = .ok (.goto 4, 3) := by decide +kernel
theorem dX3_isHandle_14 : decode cX3_isHandle 14 = .ok (.iconst 0, 1) := by decide +kernel
theorem dX3_isHandle_15 : decode cX3_isHandle 15 = .ok (.ireturn, 1) := by decide +kernel
theorem dX3_hasFunction_0 : decode cX3_hasFunction 0 = .ok (.iload_n 1, 1) := by decide +kernel
theorem dX3_hasFunction_1 : decode cX3_hasFunction 1 = .ok (.invokestatic 123, 3) := by decide +kernel
theorem dX3_hasFunction_4 : decode cX3_hasFunction 4 = .ok (.ifCond .eq 17, 3) := by decide +kernel
theorem dX3_hasFunction_7 : decode cX3_hasFunction 7 = .ok (.aload_n 0, 1) := by decide +kernel
theorem dX3_hasFunction_8 : decode cX3_hasFunction 8 = .ok (.getfield 29, 3) := by decide +kernel
theorem dX3_hasFunction_11 : decode cX3_hasFunction 11 = .ok (.iload_n 1, 1) := by decide +kernel
theorem dX3_hasFunction_12 : decode cX3_hasFunction 12 = .ok (.iaload, 1) := by decide +kernel
theorem dX3_hasFunction_13 : decode cX3_hasFunction 13 = .ok (.iconst (-1), 1) := by decide +kernel
theorem dX3_hasFunction_14 : decode cX3_hasFunction 14 = .ok (.if_icmp .eq 7, 3) := by decide +kernel
theorem dX3_hasFunction_17 : decode cX3_hasFunction 17 = .ok (.iconst 1, 1) := by decide +kernel
theorem dX3_hasFunction_18 : decode cX3_hasFunction 18 = .ok (.goto 4, 3) := by decide +kernel
theorem dX3_hasFunction_21 : decode cX3_hasFunction 21 = .ok (.iconst 0, 1) := by decide +kernel
theorem dX3_hasFunction_22 : decode cX3_hasFunction 22 = .ok (.ireturn, 1) := by decide +kernel
theorem dX3_heldCount_0 : decode cX3_heldCount 0 = .ok (.iconst 0, 1) := by decide +kernel
theorem dX3_heldCount_1 : decode cX3_heldCount 1 = .ok (.istore_n 1, 1) := by decide +kernel
theorem dX3_heldCount_2 : decode cX3_heldCount 2 = .ok (.iconst 0, 1) := by decide +kernel
theorem dX3_heldCount_3 : decode cX3_heldCount 3 = .ok (.istore_n 2, 1) := by decide +kernel
theorem dX3_heldCount_4 : decode cX3_heldCount 4 = .ok (.iload_n 2, 1) := by decide +kernel
theorem dX3_heldCount_5 : decode cX3_heldCount 5 = .ok (.bipush 12, 2) := by decide +kernel
theorem dX3_heldCount_7 : decode cX3_heldCount 7 = .ok (.if_icmp .ge 22, 3) := by decide +kernel
theorem dX3_heldCount_10 : decode cX3_heldCount 10 = .ok (.aload_n 0, 1) := by decide +kernel
theorem dX3_heldCount_11 : decode cX3_heldCount 11 = .ok (.getfield 29, 3) := by decide +kernel
theorem dX3_heldCount_14 : decode cX3_heldCount 14 = .ok (.iload_n 2, 1) := by decide +kernel
theorem dX3_heldCount_15 : decode cX3_heldCount 15 = .ok (.iaload, 1) := by decide +kernel
theorem dX3_heldCount_16 : decode cX3_heldCount 16 = .ok (.iconst (-1), 1) := by decide +kernel
theorem dX3_heldCount_17 : decode cX3_heldCount 17 = .ok (.if_icmp .eq 6, 3) := by decide +kernel
theorem dX3_heldCount_20 : decode cX3_heldCount 20 = .ok (.iinc 1 1, 3) := by decide +kernel
theorem dX3_heldCount_23 : decode cX3_heldCount 23 = .ok (.iinc 2 1, 3) := by decide +kernel
theorem dX3_heldCount_26 : decode cX3_heldCount 26 = .ok (.goto (-22), 3) := by decide +kernel
theorem dX3_heldCount_29 : decode cX3_heldCount 29 = .ok (.iload_n 1, 1) := by decide +kernel
theorem dX3_heldCount_30 : decode cX3_heldCount 30 = .ok (.ireturn, 1) := by decide +kernel
theorem dX3_beginSteps_0 : decode cX3_beginSteps 0 = .ok (.aload_n 0, 1) := by decide +kernel
theorem dX3_beginSteps_1 : decode cX3_beginSteps 1 = .ok (.iconst 0, 1) := by decide +kernel
theorem dX3_beginSteps_2 : decode cX3_beginSteps 2 = .ok (.putfield 46, 3) := by decide +kernel
theorem dX3_beginSteps_5 : decode cX3_beginSteps 5 = .ok (.return_, 1) := by decide +kernel
theorem dX3_endSteps_0 : decode cX3_endSteps 0 = .ok (.aload_n 0, 1) := by decide +kernel
theorem dX3_endSteps_1 : decode cX3_endSteps 1 = .ok (.iconst 0, 1) := by decide +kernel
theorem dX3_endSteps_2 : decode cX3_endSteps 2 = .ok (.putfield 42, 3) := by decide +kernel
theorem dX3_endSteps_5 : decode cX3_endSteps 5 = .ok (.aload_n 0, 1) := by decide +kernel
theorem dX3_endSteps_6 : decode cX3_endSteps 6 = .ok (.getfield 33, 3) := by decide +kernel
theorem dX3_endSteps_9 : decode cX3_endSteps 9 = .ok (.iconst (-1), 1) := by decide +kernel
theorem dX3_endSteps_10 : decode cX3_endSteps 10 = .ok (.invokestatic 56, 3) := by decide +kernel
theorem dX3_endSteps_13 : decode cX3_endSteps 13 = .ok (.return_, 1) := by decide +kernel
theorem dX3_give_0 : decode cX3_give 0 = .ok (.aload_n 0, 1) := by decide +kernel
theorem dX3_give_1 : decode cX3_give 1 = .ok (.invokevirtual 188, 3) := by decide +kernel
theorem dX3_give_4 : decode cX3_give 4 = .ok (.iload_n 2, 1) := by decide +kernel
theorem dX3_give_5 : decode cX3_give 5 = .ok (.iconst (-1), 1) := by decide +kernel
theorem dX3_give_6 : decode cX3_give 6 = .ok (.if_icmp .ne 6, 3) := by decide +kernel
theorem dX3_give_9 : decode cX3_give 9 = .ok (.bipush (-5), 2) := by decide +kernel
theorem dX3_give_11 : decode cX3_give 11 = .ok (.ireturn, 1) := by decide +kernel
theorem dX3_give_12 : decode cX3_give 12 = .ok (.aload_n 0, 1) := by decide +kernel
theorem dX3_give_13 : decode cX3_give 13 = .ok (.getfield 29, 3) := by decide +kernel
theorem dX3_give_16 : decode cX3_give 16 = .ok (.iload_n 1, 1) := by decide +kernel
theorem dX3_give_17 : decode cX3_give 17 = .ok (.iload_n 2, 1) := by decide +kernel
theorem dX3_give_18 : decode cX3_give 18 = .ok (.iastore, 1) := by decide +kernel
theorem dX3_give_19 : decode cX3_give 19 = .ok (.aload_n 0, 1) := by decide +kernel
theorem dX3_give_20 : decode cX3_give 20 = .ok (.getfield 25, 3) := by decide +kernel
theorem dX3_give_23 : decode cX3_give 23 = .ok (.iload_n 2, 1) := by decide +kernel
theorem dX3_give_24 : decode cX3_give 24 = .ok (.invokevirtual 152, 3) := by decide +kernel
theorem dX3_give_27 : decode cX3_give 27 = .ok (.ireturn, 1) := by decide +kernel
theorem dX3_keep_0 : decode cX3_keep 0 = .ok (.iload_n 1, 1) := by decide +kernel
theorem dX3_keep_1 : decode cX3_keep 1 = .ok (.iconst (-1), 1) := by decide +kernel
theorem dX3_keep_2 : decode cX3_keep 2 = .ok (.if_icmp .eq 32, 3) := by decide +kernel
theorem dX3_keep_5 : decode cX3_keep 5 = .ok (.aload_n 0, 1) := by decide +kernel
theorem dX3_keep_6 : decode cX3_keep 6 = .ok (.getfield 42, 3) := by decide +kernel
theorem dX3_keep_9 : decode cX3_keep 9 = .ok (.bipush 8, 2) := by decide +kernel
theorem dX3_keep_11 : decode cX3_keep 11 = .ok (.if_icmp .ge 23, 3) := by decide +kernel
theorem dX3_keep_14 : decode cX3_keep 14 = .ok (.aload_n 0, 1) := by decide +kernel
theorem dX3_keep_15 : decode cX3_keep 15 = .ok (.getfield 39, 3) := by decide +kernel
theorem dX3_keep_18 : decode cX3_keep 18 = .ok (.aload_n 0, 1) := by decide +kernel
theorem dX3_keep_19 : decode cX3_keep 19 = .ok (.getfield 42, 3) := by decide +kernel
theorem dX3_keep_22 : decode cX3_keep 22 = .ok (.iload_n 1, 1) := by decide +kernel
theorem dX3_keep_23 : decode cX3_keep 23 = .ok (.iastore, 1) := by decide +kernel
theorem dX3_keep_24 : decode cX3_keep 24 = .ok (.aload_n 0, 1) := by decide +kernel
theorem dX3_keep_25 : decode cX3_keep 25 = .ok (.dup, 1) := by decide +kernel
theorem dX3_keep_26 : decode cX3_keep 26 = .ok (.getfield 42, 3) := by decide +kernel
theorem dX3_keep_29 : decode cX3_keep 29 = .ok (.iconst 1, 1) := by decide +kernel
theorem dX3_keep_30 : decode cX3_keep 30 = .ok (.iadd, 1) := by decide +kernel
theorem dX3_keep_31 : decode cX3_keep 31 = .ok (.putfield 42, 3) := by decide +kernel
theorem dX3_keep_34 : decode cX3_keep 34 = .ok (.iload_n 1, 1) := by decide +kernel
theorem dX3_keep_35 : decode cX3_keep 35 = .ok (.ireturn, 1) := by decide +kernel
theorem dX3_kindStep_0 : decode cX3_kindStep 0 = .ok (.iload_n 2, 1) := by decide +kernel
theorem dX3_kindStep_1 : decode cX3_kindStep 1 = .ok (.iconst (-1), 1) := by decide +kernel
theorem dX3_kindStep_2 : decode cX3_kindStep 2 = .ok (.if_icmp .eq 14, 3) := by decide +kernel
theorem dX3_kindStep_5 : decode cX3_kindStep 5 = .ok (.iload_n 3, 1) := by decide +kernel
theorem dX3_kindStep_6 : decode cX3_kindStep 6 = .ok (.iconst (-1), 1) := by decide +kernel
theorem dX3_kindStep_7 : decode cX3_kindStep 7 = .ok (.if_icmp .eq 9, 3) := by decide +kernel
theorem dX3_kindStep_10 : decode cX3_kindStep 10 = .ok (.iload 4, 2) := by decide +kernel
theorem dX3_kindStep_12 : decode cX3_kindStep 12 = .ok (.iconst (-1), 1) := by decide +kernel
theorem dX3_kindStep_13 : decode cX3_kindStep 13 = .ok (.if_icmp .ne 5, 3) := by decide +kernel
theorem dX3_kindStep_16 : decode cX3_kindStep 16 = .ok (.iconst (-1), 1) := by decide +kernel
theorem dX3_kindStep_17 : decode cX3_kindStep 17 = .ok (.ireturn, 1) := by decide +kernel
theorem dX3_kindStep_18 : decode cX3_kindStep 18 = .ok (.aload_n 0, 1) := by decide +kernel
theorem dX3_kindStep_19 : decode cX3_kindStep 19 = .ok (.invokevirtual 155, 3) := by decide +kernel
theorem dX3_kindStep_22 : decode cX3_kindStep 22 = .ok (.aload_n 0, 1) := by decide +kernel
theorem dX3_kindStep_23 : decode cX3_kindStep 23 = .ok (.aload_n 0, 1) := by decide +kernel
theorem dX3_kindStep_24 : decode cX3_kindStep 24 = .ok (.getfield 25, 3) := by decide +kernel
theorem dX3_kindStep_27 : decode cX3_kindStep 27 = .ok (.getstatic 197, 3) := by decide +kernel
theorem dX3_kindStep_30 : decode cX3_kindStep 30 = .ok (.iload_n 1, 1) := by decide +kernel
theorem dX3_kindStep_31 : decode cX3_kindStep 31 = .ok (.iaload, 1) := by decide +kernel
theorem dX3_kindStep_32 : decode cX3_kindStep 32 = .ok (.iload_n 2, 1) := by decide +kernel
theorem dX3_kindStep_33 : decode cX3_kindStep 33 = .ok (.iload_n 3, 1) := by decide +kernel
theorem dX3_kindStep_34 : decode cX3_kindStep 34 = .ok (.iload 4, 2) := by decide +kernel
theorem dX3_kindStep_36 : decode cX3_kindStep 36 = .ok (.invokevirtual 200, 3) := by decide +kernel
theorem dX3_kindStep_39 : decode cX3_kindStep 39 = .ok (.invokevirtual 203, 3) := by decide +kernel
theorem dX3_kindStep_42 : decode cX3_kindStep 42 = .ok (.ireturn, 1) := by decide +kernel
theorem dX3_variableStep_0 : decode cX3_variableStep 0 = .ok (.aload_n 0, 1) := by decide +kernel
theorem dX3_variableStep_1 : decode cX3_variableStep 1 = .ok (.invokevirtual 155, 3) := by decide +kernel
theorem dX3_variableStep_4 : decode cX3_variableStep 4 = .ok (.aload_n 0, 1) := by decide +kernel
theorem dX3_variableStep_5 : decode cX3_variableStep 5 = .ok (.aload_n 0, 1) := by decide +kernel
theorem dX3_variableStep_6 : decode cX3_variableStep 6 = .ok (.getfield 25, 3) := by decide +kernel
theorem dX3_variableStep_9 : decode cX3_variableStep 9 = .ok (.aload_n 0, 1) := by decide +kernel
theorem dX3_variableStep_10 : decode cX3_variableStep 10 = .ok (.getfield 18, 3) := by decide +kernel
theorem dX3_variableStep_13 : decode cX3_variableStep 13 = .ok (.iload_n 1, 1) := by decide +kernel
theorem dX3_variableStep_14 : decode cX3_variableStep 14 = .ok (.invokevirtual 174, 3) := by decide +kernel
theorem dX3_variableStep_17 : decode cX3_variableStep 17 = .ok (.invokevirtual 206, 3) := by decide +kernel
theorem dX3_variableStep_20 : decode cX3_variableStep 20 = .ok (.invokevirtual 203, 3) := by decide +kernel
theorem dX3_variableStep_23 : decode cX3_variableStep 23 = .ok (.ireturn, 1) := by decide +kernel
theorem dX3_fixStep_0 : decode cX3_fixStep 0 = .ok (.aload_n 0, 1) := by decide +kernel
theorem dX3_fixStep_1 : decode cX3_fixStep 1 = .ok (.invokevirtual 155, 3) := by decide +kernel
theorem dX3_fixStep_4 : decode cX3_fixStep 4 = .ok (.aload_n 0, 1) := by decide +kernel
theorem dX3_fixStep_5 : decode cX3_fixStep 5 = .ok (.aload_n 0, 1) := by decide +kernel
theorem dX3_fixStep_6 : decode cX3_fixStep 6 = .ok (.getfield 25, 3) := by decide +kernel
theorem dX3_fixStep_9 : decode cX3_fixStep 9 = .ok (.iload_n 1, 1) := by decide +kernel
theorem dX3_fixStep_10 : decode cX3_fixStep 10 = .ok (.aload_n 0, 1) := by decide +kernel
theorem dX3_fixStep_11 : decode cX3_fixStep 11 = .ok (.getfield 18, 3) := by decide +kernel
theorem dX3_fixStep_14 : decode cX3_fixStep 14 = .ok (.iload_n 2, 1) := by decide +kernel
theorem dX3_fixStep_15 : decode cX3_fixStep 15 = .ok (.invokevirtual 174, 3) := by decide +kernel
theorem dX3_fixStep_18 : decode cX3_fixStep 18 = .ok (.iload_n 3, 1) := by decide +kernel
theorem dX3_fixStep_19 : decode cX3_fixStep 19 = .ok (.invokevirtual 209, 3) := by decide +kernel
theorem dX3_fixStep_22 : decode cX3_fixStep 22 = .ok (.invokevirtual 203, 3) := by decide +kernel
theorem dX3_fixStep_25 : decode cX3_fixStep 25 = .ok (.ireturn, 1) := by decide +kernel
theorem dX3_measured_0 : decode cX3_measured 0 = .ok (.iload_n 1, 1) := by decide +kernel
theorem dX3_measured_1 : decode cX3_measured 1 = .ok (.iconst (-1), 1) := by decide +kernel
theorem dX3_measured_2 : decode cX3_measured 2 = .ok (.if_icmp .ne 15, 3) := by decide +kernel
theorem dX3_measured_5 : decode cX3_measured 5 = .ok (.aload_n 0, 1) := by decide +kernel
theorem dX3_measured_6 : decode cX3_measured 6 = .ok (.getfield 25, 3) := by decide +kernel
theorem dX3_measured_9 : decode cX3_measured 9 = .ok (.invokevirtual 194, 3) := by decide +kernel
theorem dX3_measured_12 : decode cX3_measured 12 = .ok (.iconst 1, 1) := by decide +kernel
theorem dX3_measured_13 : decode cX3_measured 13 = .ok (.iadd, 1) := by decide +kernel
theorem dX3_measured_14 : decode cX3_measured 14 = .ok (.goto 10, 3) := by decide +kernel
theorem dX3_measured_17 : decode cX3_measured 17 = .ok (.aload_n 0, 1) := by decide +kernel
theorem dX3_measured_18 : decode cX3_measured 18 = .ok (.getfield 25, 3) := by decide +kernel
theorem dX3_measured_21 : decode cX3_measured 21 = .ok (.invokevirtual 158, 3) := by decide +kernel
theorem dX3_measured_24 : decode cX3_measured 24 = .ok (.istore_n 2, 1) := by decide +kernel
theorem dX3_measured_25 : decode cX3_measured 25 = .ok (.aload_n 0, 1) := by decide +kernel
theorem dX3_measured_26 : decode cX3_measured 26 = .ok (.aload_n 0, 1) := by decide +kernel
theorem dX3_measured_27 : decode cX3_measured 27 = .ok (.getfield 46, 3) := by decide +kernel
theorem dX3_measured_30 : decode cX3_measured 30 = .ok (.iload_n 2, 1) := by decide +kernel
theorem dX3_measured_31 : decode cX3_measured 31 = .ok (.invokestatic 212, 3) := by decide +kernel
theorem dX3_measured_34 : decode cX3_measured 34 = .ok (.putfield 46, 3) := by decide +kernel
theorem dX3_measured_37 : decode cX3_measured 37 = .ok (.iload_n 1, 1) := by decide +kernel
theorem dX3_measured_38 : decode cX3_measured 38 = .ok (.ireturn, 1) := by decide +kernel
theorem dX3_collect_0 : decode cX3_collect 0 = .ok (.aload_n 0, 1) := by decide +kernel
theorem dX3_collect_1 : decode cX3_collect 1 = .ok (.getfield 25, 3) := by decide +kernel
theorem dX3_collect_4 : decode cX3_collect 4 = .ok (.invokevirtual 217, 3) := by decide +kernel
theorem dX3_collect_7 : decode cX3_collect 7 = .ok (.iconst 0, 1) := by decide +kernel
theorem dX3_collect_8 : decode cX3_collect 8 = .ok (.istore_n 1, 1) := by decide +kernel
theorem dX3_collect_9 : decode cX3_collect 9 = .ok (.iload_n 1, 1) := by decide +kernel
theorem dX3_collect_10 : decode cX3_collect 10 = .ok (.bipush 12, 2) := by decide +kernel
theorem dX3_collect_12 : decode cX3_collect 12 = .ok (.if_icmp .ge 22, 3) := by decide +kernel
theorem dX3_collect_15 : decode cX3_collect 15 = .ok (.aload_n 0, 1) := by decide +kernel
theorem dX3_collect_16 : decode cX3_collect 16 = .ok (.getfield 25, 3) := by decide +kernel
theorem dX3_collect_19 : decode cX3_collect 19 = .ok (.aload_n 0, 1) := by decide +kernel
theorem dX3_collect_20 : decode cX3_collect 20 = .ok (.getfield 29, 3) := by decide +kernel
theorem dX3_collect_23 : decode cX3_collect 23 = .ok (.iload_n 1, 1) := by decide +kernel
theorem dX3_collect_24 : decode cX3_collect 24 = .ok (.iaload, 1) := by decide +kernel
theorem dX3_collect_25 : decode cX3_collect 25 = .ok (.invokevirtual 220, 3) := by decide +kernel
theorem dX3_collect_28 : decode cX3_collect 28 = .ok (.iinc 1 1, 3) := by decide +kernel
theorem dX3_collect_31 : decode cX3_collect 31 = .ok (.goto (-22), 3) := by decide +kernel
theorem dX3_collect_34 : decode cX3_collect 34 = .ok (.iconst 0, 1) := by decide +kernel
theorem dX3_collect_35 : decode cX3_collect 35 = .ok (.istore_n 1, 1) := by decide +kernel
theorem dX3_collect_36 : decode cX3_collect 36 = .ok (.iload_n 1, 1) := by decide +kernel
theorem dX3_collect_37 : decode cX3_collect 37 = .ok (.bipush 40, 2) := by decide +kernel
theorem dX3_collect_39 : decode cX3_collect 39 = .ok (.if_icmp .ge 22, 3) := by decide +kernel
theorem dX3_collect_42 : decode cX3_collect 42 = .ok (.aload_n 0, 1) := by decide +kernel
theorem dX3_collect_43 : decode cX3_collect 43 = .ok (.getfield 25, 3) := by decide +kernel
theorem dX3_collect_46 : decode cX3_collect 46 = .ok (.aload_n 0, 1) := by decide +kernel
theorem dX3_collect_47 : decode cX3_collect 47 = .ok (.getfield 33, 3) := by decide +kernel
theorem dX3_collect_50 : decode cX3_collect 50 = .ok (.iload_n 1, 1) := by decide +kernel
theorem dX3_collect_51 : decode cX3_collect 51 = .ok (.iaload, 1) := by decide +kernel
theorem dX3_collect_52 : decode cX3_collect 52 = .ok (.invokevirtual 220, 3) := by decide +kernel
theorem dX3_collect_55 : decode cX3_collect 55 = .ok (.iinc 1 1, 3) := by decide +kernel
theorem dX3_collect_58 : decode cX3_collect 58 = .ok (.goto (-22), 3) := by decide +kernel
theorem dX3_collect_61 : decode cX3_collect 61 = .ok (.iconst 0, 1) := by decide +kernel
theorem dX3_collect_62 : decode cX3_collect 62 = .ok (.istore_n 1, 1) := by decide +kernel
theorem dX3_collect_63 : decode cX3_collect 63 = .ok (.iload_n 1, 1) := by decide +kernel
theorem dX3_collect_64 : decode cX3_collect 64 = .ok (.aload_n 0, 1) := by decide +kernel
theorem dX3_collect_65 : decode cX3_collect 65 = .ok (.getfield 42, 3) := by decide +kernel
theorem dX3_collect_68 : decode cX3_collect 68 = .ok (.if_icmp .ge 22, 3) := by decide +kernel
theorem dX3_collect_71 : decode cX3_collect 71 = .ok (.aload_n 0, 1) := by decide +kernel
theorem dX3_collect_72 : decode cX3_collect 72 = .ok (.getfield 25, 3) := by decide +kernel
theorem dX3_collect_75 : decode cX3_collect 75 = .ok (.aload_n 0, 1) := by decide +kernel
theorem dX3_collect_76 : decode cX3_collect 76 = .ok (.getfield 39, 3) := by decide +kernel
theorem dX3_collect_79 : decode cX3_collect 79 = .ok (.iload_n 1, 1) := by decide +kernel
theorem dX3_collect_80 : decode cX3_collect 80 = .ok (.iaload, 1) := by decide +kernel
theorem dX3_collect_81 : decode cX3_collect 81 = .ok (.invokevirtual 220, 3) := by decide +kernel
theorem dX3_collect_84 : decode cX3_collect 84 = .ok (.iinc 1 1, 3) := by decide +kernel
theorem dX3_collect_87 : decode cX3_collect 87 = .ok (.goto (-24), 3) := by decide +kernel
theorem dX3_collect_90 : decode cX3_collect 90 = .ok (.aload_n 0, 1) := by decide +kernel
theorem dX3_collect_91 : decode cX3_collect 91 = .ok (.getfield 25, 3) := by decide +kernel
theorem dX3_collect_94 : decode cX3_collect 94 = .ok (.invokevirtual 224, 3) := by decide +kernel
theorem dX3_collect_97 : decode cX3_collect 97 = .ok (.return_, 1) := by decide +kernel
theorem dX3_building_0 : decode cX3_building 0 = .ok (.aload_n 1, 1) := by decide +kernel
theorem dX3_building_1 : decode cX3_building 1 = .ok (.iload_n 2, 1) := by decide +kernel
theorem dX3_building_2 : decode cX3_building 2 = .ok (.aload_n 0, 1) := by decide +kernel
theorem dX3_building_3 : decode cX3_building 3 = .ok (.getfield 36, 3) := by decide +kernel
theorem dX3_building_6 : decode cX3_building 6 = .ok (.invokevirtual 227, 3) := by decide +kernel
theorem dX3_building_9 : decode cX3_building 9 = .ok (.istore_n 3, 1) := by decide +kernel
theorem dX3_building_10 : decode cX3_building 10 = .ok (.iconst 0, 1) := by decide +kernel
theorem dX3_building_11 : decode cX3_building 11 = .ok (.istore 4, 2) := by decide +kernel
theorem dX3_building_13 : decode cX3_building 13 = .ok (.iload 4, 2) := by decide +kernel
theorem dX3_building_15 : decode cX3_building 15 = .ok (.iload_n 3, 1) := by decide +kernel
theorem dX3_building_16 : decode cX3_building 16 = .ok (.if_icmp .gt 106, 3) := by decide +kernel
theorem dX3_building_19 : decode cX3_building 19 = .ok (.aload_n 0, 1) := by decide +kernel
theorem dX3_building_20 : decode cX3_building 20 = .ok (.getfield 36, 3) := by decide +kernel
theorem dX3_building_23 : decode cX3_building 23 = .ok (.iload 4, 2) := by decide +kernel
theorem dX3_building_25 : decode cX3_building 25 = .ok (.iaload, 1) := by decide +kernel
theorem dX3_building_26 : decode cX3_building 26 = .ok (.iconst (-1), 1) := by decide +kernel
theorem dX3_building_27 : decode cX3_building 27 = .ok (.if_icmp .ne 6, 3) := by decide +kernel
theorem dX3_building_30 : decode cX3_building 30 = .ok (.goto 86, 3) := by decide +kernel
theorem dX3_building_33 : decode cX3_building 33 = .ok (.aload_n 1, 1) := by decide +kernel
theorem dX3_building_34 : decode cX3_building 34 = .ok (.iload 4, 2) := by decide +kernel
theorem dX3_building_36 : decode cX3_building 36 = .ok (.invokevirtual 231, 3) := by decide +kernel
theorem dX3_building_39 : decode cX3_building 39 = .ok (.istore 5, 2) := by decide +kernel
theorem dX3_building_41 : decode cX3_building 41 = .ok (.iload 5, 2) := by decide +kernel
theorem dX3_building_43 : decode cX3_building 43 = .ok (.ifCond .ne 17, 3) := by decide +kernel
theorem dX3_building_46 : decode cX3_building 46 = .ok (.aload_n 0, 1) := by decide +kernel
theorem dX3_building_47 : decode cX3_building 47 = .ok (.aload_n 1, 1) := by decide +kernel
theorem dX3_building_48 : decode cX3_building 48 = .ok (.iload 4, 2) := by decide +kernel
theorem dX3_building_50 : decode cX3_building 50 = .ok (.iconst 0, 1) := by decide +kernel
theorem dX3_building_51 : decode cX3_building 51 = .ok (.invokevirtual 234, 3) := by decide +kernel
theorem dX3_building_54 : decode cX3_building 54 = .ok (.invokevirtual 136, 3) := by decide +kernel
theorem dX3_building_57 : decode cX3_building 57 = .ok (.goto 33, 3) := by decide +kernel
theorem dX3_building_60 : decode cX3_building 60 = .ok (.aload_n 0, 1) := by decide +kernel
theorem dX3_building_61 : decode cX3_building 61 = .ok (.iload 5, 2) := by decide +kernel
theorem dX3_building_63 : decode cX3_building 63 = .ok (.aload_n 0, 1) := by decide +kernel
theorem dX3_building_64 : decode cX3_building 64 = .ok (.aload_n 1, 1) := by decide +kernel
theorem dX3_building_65 : decode cX3_building 65 = .ok (.iload 4, 2) := by decide +kernel
theorem dX3_building_67 : decode cX3_building 67 = .ok (.iconst 0, 1) := by decide +kernel
theorem dX3_building_68 : decode cX3_building 68 = .ok (.invokevirtual 237, 3) := by decide +kernel
theorem dX3_building_71 : decode cX3_building 71 = .ok (.aload_n 0, 1) := by decide +kernel
theorem dX3_building_72 : decode cX3_building 72 = .ok (.aload_n 1, 1) := by decide +kernel
theorem dX3_building_73 : decode cX3_building 73 = .ok (.iload 4, 2) := by decide +kernel
theorem dX3_building_75 : decode cX3_building 75 = .ok (.iconst 1, 1) := by decide +kernel
theorem dX3_building_76 : decode cX3_building 76 = .ok (.invokevirtual 237, 3) := by decide +kernel
theorem dX3_building_79 : decode cX3_building 79 = .ok (.aload_n 0, 1) := by decide +kernel
theorem dX3_building_80 : decode cX3_building 80 = .ok (.aload_n 1, 1) := by decide +kernel
theorem dX3_building_81 : decode cX3_building 81 = .ok (.iload 4, 2) := by decide +kernel
theorem dX3_building_83 : decode cX3_building 83 = .ok (.iconst 2, 1) := by decide +kernel
theorem dX3_building_84 : decode cX3_building 84 = .ok (.invokevirtual 237, 3) := by decide +kernel
theorem dX3_building_87 : decode cX3_building 87 = .ok (.invokevirtual 142, 3) := by decide +kernel
theorem dX3_building_90 : decode cX3_building 90 = .ok (.istore 6, 2) := by decide +kernel
theorem dX3_building_92 : decode cX3_building 92 = .ok (.iload 6, 2) := by decide +kernel
theorem dX3_building_94 : decode cX3_building 94 = .ok (.iconst (-1), 1) := by decide +kernel
theorem dX3_building_95 : decode cX3_building 95 = .ok (.if_icmp .ne 5, 3) := by decide +kernel
theorem dX3_building_98 : decode cX3_building 98 = .ok (.iconst (-1), 1) := by decide +kernel
theorem dX3_building_99 : decode cX3_building 99 = .ok (.ireturn, 1) := by decide +kernel
theorem dX3_building_100 : decode cX3_building 100 = .ok (.aload_n 0, 1) := by decide +kernel
theorem dX3_building_101 : decode cX3_building 101 = .ok (.getfield 33, 3) := by decide +kernel
theorem dX3_building_104 : decode cX3_building 104 = .ok (.iload 4, 2) := by decide +kernel
theorem dX3_building_106 : decode cX3_building 106 = .ok (.iload 6, 2) := by decide +kernel
theorem dX3_building_108 : decode cX3_building 108 = .ok (.iastore, 1) := by decide +kernel
theorem dX3_building_109 : decode cX3_building 109 = .ok (.aload_n 0, 1) := by decide +kernel
theorem dX3_building_110 : decode cX3_building 110 = .ok (.aload_n 1, 1) := by decide +kernel
theorem dX3_building_111 : decode cX3_building 111 = .ok (.iload 4, 2) := by decide +kernel
theorem dX3_building_113 : decode cX3_building 113 = .ok (.invokevirtual 241, 3) := by decide +kernel
theorem dX3_building_116 : decode cX3_building 116 = .ok (.iinc 4 1, 3) := by decide +kernel
theorem dX3_building_119 : decode cX3_building 119 = .ok (.goto (-106), 3) := by decide +kernel
theorem dX3_building_122 : decode cX3_building 122 = .ok (.aload_n 0, 1) := by decide +kernel
theorem dX3_building_123 : decode cX3_building 123 = .ok (.aload_n 0, 1) := by decide +kernel
theorem dX3_building_124 : decode cX3_building 124 = .ok (.getfield 33, 3) := by decide +kernel
theorem dX3_building_127 : decode cX3_building 127 = .ok (.iload_n 3, 1) := by decide +kernel
theorem dX3_building_128 : decode cX3_building 128 = .ok (.iaload, 1) := by decide +kernel
theorem dX3_building_129 : decode cX3_building 129 = .ok (.invokevirtual 149, 3) := by decide +kernel
theorem dX3_building_132 : decode cX3_building 132 = .ok (.istore 4, 2) := by decide +kernel
theorem dX3_building_134 : decode cX3_building 134 = .ok (.aload_n 0, 1) := by decide +kernel
theorem dX3_building_135 : decode cX3_building 135 = .ok (.getfield 33, 3) := by decide +kernel
theorem dX3_building_138 : decode cX3_building 138 = .ok (.iload_n 3, 1) := by decide +kernel
theorem dX3_building_139 : decode cX3_building 139 = .ok (.iconst (-1), 1) := by decide +kernel
theorem dX3_building_140 : decode cX3_building 140 = .ok (.iastore, 1) := by decide +kernel
theorem dX3_building_141 : decode cX3_building 141 = .ok (.iload 4, 2) := by decide +kernel
theorem dX3_building_143 : decode cX3_building 143 = .ok (.ireturn, 1) := by decide +kernel
theorem dX3_madeFor_0 : decode cX3_madeFor 0 = .ok (.iload_n 3, 1) := by decide +kernel
theorem dX3_madeFor_1 : decode cX3_madeFor 1 = .ok (.getstatic 245, 3) := by decide +kernel
theorem dX3_madeFor_4 : decode cX3_madeFor 4 = .ok (.aload_n 1, 1) := by decide +kernel
theorem dX3_madeFor_5 : decode cX3_madeFor 5 = .ok (.iload_n 2, 1) := by decide +kernel
theorem dX3_madeFor_6 : decode cX3_madeFor 6 = .ok (.invokevirtual 231, 3) := by decide +kernel
theorem dX3_madeFor_9 : decode cX3_madeFor 9 = .ok (.iaload, 1) := by decide +kernel
theorem dX3_madeFor_10 : decode cX3_madeFor 10 = .ok (.if_icmp .ge 17, 3) := by decide +kernel
theorem dX3_madeFor_13 : decode cX3_madeFor 13 = .ok (.aload_n 0, 1) := by decide +kernel
theorem dX3_madeFor_14 : decode cX3_madeFor 14 = .ok (.getfield 33, 3) := by decide +kernel
theorem dX3_madeFor_17 : decode cX3_madeFor 17 = .ok (.aload_n 1, 1) := by decide +kernel
theorem dX3_madeFor_18 : decode cX3_madeFor 18 = .ok (.iload_n 2, 1) := by decide +kernel
theorem dX3_madeFor_19 : decode cX3_madeFor 19 = .ok (.iload_n 3, 1) := by decide +kernel
theorem dX3_madeFor_20 : decode cX3_madeFor 20 = .ok (.invokevirtual 234, 3) := by decide +kernel
theorem dX3_madeFor_23 : decode cX3_madeFor 23 = .ok (.iaload, 1) := by decide +kernel
theorem dX3_madeFor_24 : decode cX3_madeFor 24 = .ok (.goto 4, 3) := by decide +kernel
theorem dX3_madeFor_27 : decode cX3_madeFor 27 = .ok (.iconst 0, 1) := by decide +kernel
theorem dX3_madeFor_28 : decode cX3_madeFor 28 = .ok (.ireturn, 1) := by decide +kernel
theorem dX3_letGoBehind_0 : decode cX3_letGoBehind 0 = .ok (.getstatic 245, 3) := by decide +kernel
theorem dX3_letGoBehind_3 : decode cX3_letGoBehind 3 = .ok (.aload_n 1, 1) := by decide +kernel
theorem dX3_letGoBehind_4 : decode cX3_letGoBehind 4 = .ok (.iload_n 2, 1) := by decide +kernel
theorem dX3_letGoBehind_5 : decode cX3_letGoBehind 5 = .ok (.invokevirtual 231, 3) := by decide +kernel
theorem dX3_letGoBehind_8 : decode cX3_letGoBehind 8 = .ok (.iaload, 1) := by decide +kernel
theorem dX3_letGoBehind_9 : decode cX3_letGoBehind 9 = .ok (.istore_n 3, 1) := by decide +kernel
theorem dX3_letGoBehind_10 : decode cX3_letGoBehind 10 = .ok (.iconst 0, 1) := by decide +kernel
theorem dX3_letGoBehind_11 : decode cX3_letGoBehind 11 = .ok (.istore 4, 2) := by decide +kernel
theorem dX3_letGoBehind_13 : decode cX3_letGoBehind 13 = .ok (.iload 4, 2) := by decide +kernel
theorem dX3_letGoBehind_15 : decode cX3_letGoBehind 15 = .ok (.iload_n 3, 1) := by decide +kernel
theorem dX3_letGoBehind_16 : decode cX3_letGoBehind 16 = .ok (.if_icmp .ge 37, 3) := by decide +kernel
theorem dX3_letGoBehind_19 : decode cX3_letGoBehind 19 = .ok (.aload_n 1, 1) := by decide +kernel
theorem dX3_letGoBehind_20 : decode cX3_letGoBehind 20 = .ok (.iload_n 2, 1) := by decide +kernel
theorem dX3_letGoBehind_21 : decode cX3_letGoBehind 21 = .ok (.iload 4, 2) := by decide +kernel
theorem dX3_letGoBehind_23 : decode cX3_letGoBehind 23 = .ok (.invokevirtual 234, 3) := by decide +kernel
theorem dX3_letGoBehind_26 : decode cX3_letGoBehind 26 = .ok (.istore 5, 2) := by decide +kernel
theorem dX3_letGoBehind_28 : decode cX3_letGoBehind 28 = .ok (.aload_n 0, 1) := by decide +kernel
theorem dX3_letGoBehind_29 : decode cX3_letGoBehind 29 = .ok (.getfield 36, 3) := by decide +kernel
theorem dX3_letGoBehind_32 : decode cX3_letGoBehind 32 = .ok (.iload 5, 2) := by decide +kernel
theorem dX3_letGoBehind_34 : decode cX3_letGoBehind 34 = .ok (.iaload, 1) := by decide +kernel
theorem dX3_letGoBehind_35 : decode cX3_letGoBehind 35 = .ok (.iload_n 2, 1) := by decide +kernel
theorem dX3_letGoBehind_36 : decode cX3_letGoBehind 36 = .ok (.if_icmp .ne 11, 3) := by decide +kernel
theorem dX3_letGoBehind_39 : decode cX3_letGoBehind 39 = .ok (.aload_n 0, 1) := by decide +kernel
theorem dX3_letGoBehind_40 : decode cX3_letGoBehind 40 = .ok (.getfield 33, 3) := by decide +kernel
theorem dX3_letGoBehind_43 : decode cX3_letGoBehind 43 = .ok (.iload 5, 2) := by decide +kernel
theorem dX3_letGoBehind_45 : decode cX3_letGoBehind 45 = .ok (.iconst (-1), 1) := by decide +kernel
theorem dX3_letGoBehind_46 : decode cX3_letGoBehind 46 = .ok (.iastore, 1) := by decide +kernel
theorem dX3_letGoBehind_47 : decode cX3_letGoBehind 47 = .ok (.iinc 4 1, 3) := by decide +kernel
theorem dX3_letGoBehind_50 : decode cX3_letGoBehind 50 = .ok (.goto (-37), 3) := by decide +kernel
theorem dX3_letGoBehind_53 : decode cX3_letGoBehind 53 = .ok (.return_, 1) := by decide +kernel
theorem dX3_notePart_0 : decode cX3_notePart 0 = .ok (.iload_n 2, 1) := by decide +kernel
theorem dX3_notePart_1 : decode cX3_notePart 1 = .ok (.iconst (-1), 1) := by decide +kernel
theorem dX3_notePart_2 : decode cX3_notePart 2 = .ok (.if_icmp .eq 29, 3) := by decide +kernel
theorem dX3_notePart_5 : decode cX3_notePart 5 = .ok (.iload_n 2, 1) := by decide +kernel
theorem dX3_notePart_6 : decode cX3_notePart 6 = .ok (.ifCond .eq 25, 3) := by decide +kernel
theorem dX3_notePart_9 : decode cX3_notePart 9 = .ok (.aload_n 0, 1) := by decide +kernel
theorem dX3_notePart_10 : decode cX3_notePart 10 = .ok (.iload_n 1, 1) := by decide +kernel
theorem dX3_notePart_11 : decode cX3_notePart 11 = .ok (.putfield 49, 3) := by decide +kernel
theorem dX3_notePart_14 : decode cX3_notePart 14 = .ok (.aload_n 0, 1) := by decide +kernel
theorem dX3_notePart_15 : decode cX3_notePart 15 = .ok (.aload_n 0, 1) := by decide +kernel
theorem dX3_notePart_16 : decode cX3_notePart 16 = .ok (.getfield 25, 3) := by decide +kernel
theorem dX3_notePart_19 : decode cX3_notePart 19 = .ok (.iload_n 2, 1) := by decide +kernel
theorem dX3_notePart_20 : decode cX3_notePart 20 = .ok (.iconst 1, 1) := by decide +kernel
theorem dX3_notePart_21 : decode cX3_notePart 21 = .ok (.aload_n 0, 1) := by decide +kernel
theorem dX3_notePart_22 : decode cX3_notePart 22 = .ok (.getfield 18, 3) := by decide +kernel
theorem dX3_notePart_25 : decode cX3_notePart 25 = .ok (.invokevirtual 175, 3) := by decide +kernel
theorem dX3_notePart_28 : decode cX3_notePart 28 = .ok (.putfield 52, 3) := by decide +kernel
theorem dX3_notePart_31 : decode cX3_notePart 31 = .ok (.return_, 1) := by decide +kernel
end
section
theorem dX4_init_0 : decode cX4_init 0 = .ok (.aload_n 0, 1) := by decide +kernel
theorem dX4_init_1 : decode cX4_init 1 = .ok (.invokespecial 1, 3) := by decide +kernel
theorem dX4_init_4 : decode cX4_init 4 = .ok (.aload_n 0, 1) := by decide +kernel
theorem dX4_init_5 : decode cX4_init 5 = .ok (.iconst 3, 1) := by decide +kernel
theorem dX4_init_6 : decode cX4_init 6 = .ok (.newarray .int, 2) := by decide +kernel
theorem dX4_init_8 : decode cX4_init 8 = .ok (.putfield 7, 3) := by decide +kernel
theorem dX4_init_11 : decode cX4_init 11 = .ok (.aload_n 0, 1) := by decide +kernel
theorem dX4_init_12 : decode cX4_init 12 = .ok (.iconst 3, 1) := by decide +kernel
theorem dX4_init_13 : decode cX4_init 13 = .ok (.newarray .int, 2) := by decide +kernel
theorem dX4_init_15 : decode cX4_init 15 = .ok (.putfield 13, 3) := by decide +kernel
theorem dX4_init_18 : decode cX4_init 18 = .ok (.aload_n 0, 1) := by decide +kernel
theorem dX4_init_19 : decode cX4_init 19 = .ok (.bipush 120, 2) := by decide +kernel
theorem dX4_init_21 : decode cX4_init 21 = .ok (.newarray .int, 2) := by decide +kernel
theorem dX4_init_23 : decode cX4_init 23 = .ok (.putfield 16, 3) := by decide +kernel
theorem dX4_init_26 : decode cX4_init 26 = .ok (.aload_n 0, 1) := by decide +kernel
theorem dX4_init_27 : decode cX4_init 27 = .ok (.sipush 360, 3) := by decide +kernel
theorem dX4_init_30 : decode cX4_init 30 = .ok (.newarray .int, 2) := by decide +kernel
theorem dX4_init_32 : decode cX4_init 32 = .ok (.putfield 19, 3) := by decide +kernel
theorem dX4_init_35 : decode cX4_init 35 = .ok (.aload_n 0, 1) := by decide +kernel
theorem dX4_init_36 : decode cX4_init 36 = .ok (.bipush 12, 2) := by decide +kernel
theorem dX4_init_38 : decode cX4_init 38 = .ok (.newarray .int, 2) := by decide +kernel
theorem dX4_init_40 : decode cX4_init 40 = .ok (.putfield 22, 3) := by decide +kernel
theorem dX4_init_43 : decode cX4_init 43 = .ok (.aload_n 0, 1) := by decide +kernel
theorem dX4_init_44 : decode cX4_init 44 = .ok (.bipush 40, 2) := by decide +kernel
theorem dX4_init_46 : decode cX4_init 46 = .ok (.newarray .boolean, 2) := by decide +kernel
theorem dX4_init_48 : decode cX4_init 48 = .ok (.putfield 25, 3) := by decide +kernel
theorem dX4_init_51 : decode cX4_init 51 = .ok (.aload_n 0, 1) := by decide +kernel
theorem dX4_init_52 : decode cX4_init 52 = .ok (.bipush 8, 2) := by decide +kernel
theorem dX4_init_54 : decode cX4_init 54 = .ok (.newarray .int, 2) := by decide +kernel
theorem dX4_init_56 : decode cX4_init 56 = .ok (.putfield 29, 3) := by decide +kernel
theorem dX4_init_59 : decode cX4_init 59 = .ok (.aload_n 0, 1) := by decide +kernel
theorem dX4_init_60 : decode cX4_init 60 = .ok (.bipush 8, 2) := by decide +kernel
theorem dX4_init_62 : decode cX4_init 62 = .ok (.newarray .int, 2) := by decide +kernel
theorem dX4_init_64 : decode cX4_init 64 = .ok (.putfield 32, 3) := by decide +kernel
theorem dX4_init_67 : decode cX4_init 67 = .ok (.aload_n 0, 1) := by decide +kernel
theorem dX4_init_68 : decode cX4_init 68 = .ok (.bipush 40, 2) := by decide +kernel
theorem dX4_init_70 : decode cX4_init 70 = .ok (.newarray .boolean, 2) := by decide +kernel
theorem dX4_init_72 : decode cX4_init 72 = .ok (.putfield 35, 3) := by decide +kernel
theorem dX4_init_75 : decode cX4_init 75 = .ok (.aload_n 0, 1) := by decide +kernel
theorem dX4_init_76 : decode cX4_init 76 = .ok (.bipush 41, 2) := by decide +kernel
theorem dX4_init_78 : decode cX4_init 78 = .ok (.newarray .int, 2) := by decide +kernel
theorem dX4_init_80 : decode cX4_init 80 = .ok (.putfield 38, 3) := by decide +kernel
theorem dX4_init_83 : decode cX4_init 83 = .ok (.aload_n 0, 1) := by decide +kernel
theorem dX4_init_84 : decode cX4_init 84 = .ok (.bipush 41, 2) := by decide +kernel
theorem dX4_init_86 : decode cX4_init 86 = .ok (.newarray .int, 2) := by decide +kernel
theorem dX4_init_88 : decode cX4_init 88 = .ok (.putfield 41, 3) := by decide +kernel
theorem dX4_init_91 : decode cX4_init 91 = .ok (.aload_n 0, 1) := by decide +kernel
theorem dX4_init_92 : decode cX4_init 92 = .ok (.bipush 56, 2) := by decide +kernel
theorem dX4_init_94 : decode cX4_init 94 = .ok (.newarray .boolean, 2) := by decide +kernel
theorem dX4_init_96 : decode cX4_init 96 = .ok (.putfield 44, 3) := by decide +kernel
theorem dX4_init_99 : decode cX4_init 99 = .ok (.aload_n 0, 1) := by decide +kernel
theorem dX4_init_100 : decode cX4_init 100 = .ok (.sipush 224, 3) := by decide +kernel
theorem dX4_init_103 : decode cX4_init 103 = .ok (.newarray .long, 2) := by decide +kernel
theorem dX4_init_105 : decode cX4_init 105 = .ok (.putfield 47, 3) := by decide +kernel
theorem dX4_init_108 : decode cX4_init 108 = .ok (.aload_n 0, 1) := by decide +kernel
theorem dX4_init_109 : decode cX4_init 109 = .ok (.bipush 56, 2) := by decide +kernel
theorem dX4_init_111 : decode cX4_init 111 = .ok (.newarray .int, 2) := by decide +kernel
theorem dX4_init_113 : decode cX4_init 113 = .ok (.putfield 51, 3) := by decide +kernel
theorem dX4_init_116 : decode cX4_init 116 = .ok (.aload_n 0, 1) := by decide +kernel
theorem dX4_init_117 : decode cX4_init 117 = .ok (.sipush 14280, 3) := by decide +kernel
theorem dX4_init_120 : decode cX4_init 120 = .ok (.newarray .int, 2) := by decide +kernel
theorem dX4_init_122 : decode cX4_init 122 = .ok (.putfield 54, 3) := by decide +kernel
theorem dX4_init_125 : decode cX4_init 125 = .ok (.aload_n 0, 1) := by decide +kernel
theorem dX4_init_126 : decode cX4_init 126 = .ok (.sipush 520, 3) := by decide +kernel
theorem dX4_init_129 : decode cX4_init 129 = .ok (.newarray .int, 2) := by decide +kernel
theorem dX4_init_131 : decode cX4_init 131 = .ok (.putfield 57, 3) := by decide +kernel
theorem dX4_init_134 : decode cX4_init 134 = .ok (.aload_n 0, 1) := by decide +kernel
theorem dX4_init_135 : decode cX4_init 135 = .ok (.sipush 2080, 3) := by decide +kernel
theorem dX4_init_138 : decode cX4_init 138 = .ok (.newarray .long, 2) := by decide +kernel
theorem dX4_init_140 : decode cX4_init 140 = .ok (.putfield 60, 3) := by decide +kernel
theorem dX4_init_143 : decode cX4_init 143 = .ok (.aload_n 0, 1) := by decide +kernel
theorem dX4_init_144 : decode cX4_init 144 = .ok (.sipush 520, 3) := by decide +kernel
theorem dX4_init_147 : decode cX4_init 147 = .ok (.newarray .int, 2) := by decide +kernel
theorem dX4_init_149 : decode cX4_init 149 = .ok (.putfield 63, 3) := by decide +kernel
theorem dX4_init_152 : decode cX4_init 152 = .ok (.aload_n 0, 1) := by decide +kernel
theorem dX4_init_153 : decode cX4_init 153 = .ok (.sipush 520, 3) := by decide +kernel
theorem dX4_init_156 : decode cX4_init 156 = .ok (.newarray .int, 2) := by decide +kernel
theorem dX4_init_158 : decode cX4_init 158 = .ok (.putfield 66, 3) := by decide +kernel
theorem dX4_init_161 : decode cX4_init 161 = .ok (.aload_n 0, 1) := by decide +kernel
theorem dX4_init_162 : decode cX4_init 162 = .ok (.sipush 512, 3) := by decide +kernel
theorem dX4_init_165 : decode cX4_init 165 = .ok (.newarray .int, 2) := by decide +kernel
theorem dX4_init_167 : decode cX4_init 167 = .ok (.putfield 69, 3) := by decide +kernel
theorem dX4_init_170 : decode cX4_init 170 = .ok (.aload_n 0, 1) := by decide +kernel
theorem dX4_init_171 : decode cX4_init 171 = .ok (.sipush 520, 3) := by decide +kernel
theorem dX4_init_174 : decode cX4_init 174 = .ok (.newarray .int, 2) := by decide +kernel
theorem dX4_init_176 : decode cX4_init 176 = .ok (.putfield 72, 3) := by decide +kernel
theorem dX4_init_179 : decode cX4_init 179 = .ok (.aload_n 0, 1) := by decide +kernel
theorem dX4_init_180 : decode cX4_init 180 = .ok (.iconst 4, 1) := by decide +kernel
theorem dX4_init_181 : decode cX4_init 181 = .ok (.newarray .long, 2) := by decide +kernel
theorem dX4_init_183 : decode cX4_init 183 = .ok (.putfield 75, 3) := by decide +kernel
theorem dX4_init_186 : decode cX4_init 186 = .ok (.aload_n 0, 1) := by decide +kernel
theorem dX4_init_187 : decode cX4_init 187 = .ok (.bipush 8, 2) := by decide +kernel
theorem dX4_init_189 : decode cX4_init 189 = .ok (.newarray .long, 2) := by decide +kernel
theorem dX4_init_191 : decode cX4_init 191 = .ok (.dup, 1) := by decide +kernel
theorem dX4_init_192 : decode cX4_init 192 = .ok (.iconst 0, 1) := by decide +kernel
theorem dX4_init_193 : decode cX4_init 193 = .ok (.lconst 0, 1) := by decide +kernel
theorem dX4_init_194 : decode cX4_init 194 = .ok (.lastore, 1) := by decide +kernel
theorem dX4_init_195 : decode cX4_init 195 = .ok (.dup, 1) := by decide +kernel
theorem dX4_init_196 : decode cX4_init 196 = .ok (.iconst 1, 1) := by decide +kernel
theorem dX4_init_197 : decode cX4_init 197 = .ok (.lconst 0, 1) := by decide +kernel
theorem dX4_init_198 : decode cX4_init 198 = .ok (.lastore, 1) := by decide +kernel
theorem dX4_init_199 : decode cX4_init 199 = .ok (.dup, 1) := by decide +kernel
theorem dX4_init_200 : decode cX4_init 200 = .ok (.iconst 2, 1) := by decide +kernel
theorem dX4_init_201 : decode cX4_init 201 = .ok (.ldc2_w 78, 3) := by decide +kernel
theorem dX4_init_204 : decode cX4_init 204 = .ok (.lastore, 1) := by decide +kernel
theorem dX4_init_205 : decode cX4_init 205 = .ok (.dup, 1) := by decide +kernel
theorem dX4_init_206 : decode cX4_init 206 = .ok (.iconst 3, 1) := by decide +kernel
theorem dX4_init_207 : decode cX4_init 207 = .ok (.ldc2_w 80, 3) := by decide +kernel
theorem dX4_init_210 : decode cX4_init 210 = .ok (.lastore, 1) := by decide +kernel
theorem dX4_init_211 : decode cX4_init 211 = .ok (.dup, 1) := by decide +kernel
theorem dX4_init_212 : decode cX4_init 212 = .ok (.iconst 4, 1) := by decide +kernel
theorem dX4_init_213 : decode cX4_init 213 = .ok (.ldc2_w 82, 3) := by decide +kernel
theorem dX4_init_216 : decode cX4_init 216 = .ok (.lastore, 1) := by decide +kernel
theorem dX4_init_217 : decode cX4_init 217 = .ok (.dup, 1) := by decide +kernel
theorem dX4_init_218 : decode cX4_init 218 = .ok (.iconst 5, 1) := by decide +kernel
theorem dX4_init_219 : decode cX4_init 219 = .ok (.ldc2_w 84, 3) := by decide +kernel
theorem dX4_init_222 : decode cX4_init 222 = .ok (.lastore, 1) := by decide +kernel
theorem dX4_init_223 : decode cX4_init 223 = .ok (.dup, 1) := by decide +kernel
theorem dX4_init_224 : decode cX4_init 224 = .ok (.bipush 6, 2) := by decide +kernel
theorem dX4_init_226 : decode cX4_init 226 = .ok (.ldc2_w 86, 3) := by decide +kernel
theorem dX4_init_229 : decode cX4_init 229 = .ok (.lastore, 1) := by decide +kernel
theorem dX4_init_230 : decode cX4_init 230 = .ok (.dup, 1) := by decide +kernel
theorem dX4_init_231 : decode cX4_init 231 = .ok (.bipush 7, 2) := by decide +kernel
theorem dX4_init_233 : decode cX4_init 233 = .ok (.ldc2_w 88, 3) := by decide +kernel
theorem dX4_init_236 : decode cX4_init 236 = .ok (.lastore, 1) := by decide +kernel
theorem dX4_init_237 : decode cX4_init 237 = .ok (.putfield 90, 3) := by decide +kernel
theorem dX4_init_240 : decode cX4_init 240 = .ok (.aload_n 0, 1) := by decide +kernel
theorem dX4_init_241 : decode cX4_init 241 = .ok (.bipush 40, 2) := by decide +kernel
theorem dX4_init_243 : decode cX4_init 243 = .ok (.newarray .boolean, 2) := by decide +kernel
theorem dX4_init_245 : decode cX4_init 245 = .ok (.putfield 93, 3) := by decide +kernel
theorem dX4_init_248 : decode cX4_init 248 = .ok (.aload_n 0, 1) := by decide +kernel
theorem dX4_init_249 : decode cX4_init 249 = .ok (.bipush 40, 2) := by decide +kernel
theorem dX4_init_251 : decode cX4_init 251 = .ok (.newarray .int, 2) := by decide +kernel
theorem dX4_init_253 : decode cX4_init 253 = .ok (.putfield 96, 3) := by decide +kernel
theorem dX4_init_256 : decode cX4_init 256 = .ok (.aload_n 0, 1) := by decide +kernel
theorem dX4_init_257 : decode cX4_init 257 = .ok (.sipush 256, 3) := by decide +kernel
theorem dX4_init_260 : decode cX4_init 260 = .ok (.newarray .int, 2) := by decide +kernel
theorem dX4_init_262 : decode cX4_init 262 = .ok (.putfield 99, 3) := by decide +kernel
theorem dX4_init_265 : decode cX4_init 265 = .ok (.iconst 0, 1) := by decide +kernel
theorem dX4_init_266 : decode cX4_init 266 = .ok (.istore_n 1, 1) := by decide +kernel
theorem dX4_init_267 : decode cX4_init 267 = .ok (.iload_n 1, 1) := by decide +kernel
theorem dX4_init_268 : decode cX4_init 268 = .ok (.bipush 8, 2) := by decide +kernel
theorem dX4_init_270 : decode cX4_init 270 = .ok (.if_icmp .ge 23, 3) := by decide +kernel
theorem dX4_init_273 : decode cX4_init 273 = .ok (.aload_n 0, 1) := by decide +kernel
theorem dX4_init_274 : decode cX4_init 274 = .ok (.getfield 29, 3) := by decide +kernel
theorem dX4_init_277 : decode cX4_init 277 = .ok (.iload_n 1, 1) := by decide +kernel
theorem dX4_init_278 : decode cX4_init 278 = .ok (.iload_n 1, 1) := by decide +kernel
theorem dX4_init_279 : decode cX4_init 279 = .ok (.iastore, 1) := by decide +kernel
theorem dX4_init_280 : decode cX4_init 280 = .ok (.aload_n 0, 1) := by decide +kernel
theorem dX4_init_281 : decode cX4_init 281 = .ok (.getfield 32, 3) := by decide +kernel
theorem dX4_init_284 : decode cX4_init 284 = .ok (.iload_n 1, 1) := by decide +kernel
theorem dX4_init_285 : decode cX4_init 285 = .ok (.iload_n 1, 1) := by decide +kernel
theorem dX4_init_286 : decode cX4_init 286 = .ok (.iastore, 1) := by decide +kernel
theorem dX4_init_287 : decode cX4_init 287 = .ok (.iinc 1 1, 3) := by decide +kernel
theorem dX4_init_290 : decode cX4_init 290 = .ok (.goto (-23), 3) := by decide +kernel
theorem dX4_init_293 : decode cX4_init 293 = .ok (.aload_n 0, 1) := by decide +kernel
theorem dX4_init_294 : decode cX4_init 294 = .ok (.sipush 250, 3) := by decide +kernel
theorem dX4_init_297 : decode cX4_init 297 = .ok (.putfield 102, 3) := by decide +kernel
theorem dX4_init_300 : decode cX4_init 300 = .ok (.iconst 0, 1) := by decide +kernel
theorem dX4_init_301 : decode cX4_init 301 = .ok (.istore_n 1, 1) := by decide +kernel
theorem dX4_init_302 : decode cX4_init 302 = .ok (.iload_n 1, 1) := by decide +kernel
theorem dX4_init_303 : decode cX4_init 303 = .ok (.sipush 520, 3) := by decide +kernel
theorem dX4_init_306 : decode cX4_init 306 = .ok (.if_icmp .ge 18, 3) := by decide +kernel
theorem dX4_init_309 : decode cX4_init 309 = .ok (.aload_n 0, 1) := by decide +kernel
theorem dX4_init_310 : decode cX4_init 310 = .ok (.getfield 66, 3) := by decide +kernel
theorem dX4_init_313 : decode cX4_init 313 = .ok (.iload_n 1, 1) := by decide +kernel
theorem dX4_init_314 : decode cX4_init 314 = .ok (.iload_n 1, 1) := by decide +kernel
theorem dX4_init_315 : decode cX4_init 315 = .ok (.iconst 1, 1) := by decide +kernel
theorem dX4_init_316 : decode cX4_init 316 = .ok (.iadd, 1) := by decide +kernel
theorem dX4_init_317 : decode cX4_init 317 = .ok (.iastore, 1) := by decide +kernel
theorem dX4_init_318 : decode cX4_init 318 = .ok (.iinc 1 1, 3) := by decide +kernel
theorem dX4_init_321 : decode cX4_init 321 = .ok (.goto (-19), 3) := by decide +kernel
theorem dX4_init_324 : decode cX4_init 324 = .ok (.aload_n 0, 1) := by decide +kernel
theorem dX4_init_325 : decode cX4_init 325 = .ok (.getfield 66, 3) := by decide +kernel
theorem dX4_init_328 : decode cX4_init 328 = .ok (.sipush 519, 3) := by decide +kernel
theorem dX4_init_331 : decode cX4_init 331 = .ok (.iconst (-1), 1) := by decide +kernel
theorem dX4_init_332 : decode cX4_init 332 = .ok (.iastore, 1) := by decide +kernel
theorem dX4_init_333 : decode cX4_init 333 = .ok (.iconst 0, 1) := by decide +kernel
theorem dX4_init_334 : decode cX4_init 334 = .ok (.istore_n 1, 1) := by decide +kernel
theorem dX4_init_335 : decode cX4_init 335 = .ok (.iload_n 1, 1) := by decide +kernel
theorem dX4_init_336 : decode cX4_init 336 = .ok (.sipush 512, 3) := by decide +kernel
theorem dX4_init_339 : decode cX4_init 339 = .ok (.if_icmp .ge 16, 3) := by decide +kernel
theorem dX4_init_342 : decode cX4_init 342 = .ok (.aload_n 0, 1) := by decide +kernel
theorem dX4_init_343 : decode cX4_init 343 = .ok (.getfield 69, 3) := by decide +kernel
theorem dX4_init_346 : decode cX4_init 346 = .ok (.iload_n 1, 1) := by decide +kernel
theorem dX4_init_347 : decode cX4_init 347 = .ok (.iconst (-1), 1) := by decide +kernel
theorem dX4_init_348 : decode cX4_init 348 = .ok (.iastore, 1) := by decide +kernel
theorem dX4_init_349 : decode cX4_init 349 = .ok (.iinc 1 1, 3) := by decide +kernel
theorem dX4_init_352 : decode cX4_init 352 = .ok (.goto (-17), 3) := by decide +kernel
theorem dX4_init_355 : decode cX4_init 355 = .ok (.aload_n 0, 1) := by decide +kernel
theorem dX4_init_356 : decode cX4_init 356 = .ok (.bipush (-9), 2) := by decide +kernel
theorem dX4_init_358 : decode cX4_init 358 = .ok (.putfield 106, 3) := by decide +kernel
theorem dX4_init_361 : decode cX4_init 361 = .ok (.aload_n 0, 1) := by decide +kernel
theorem dX4_init_362 : decode cX4_init 362 = .ok (.bipush (-9), 2) := by decide +kernel
theorem dX4_init_364 : decode cX4_init 364 = .ok (.putfield 109, 3) := by decide +kernel
theorem dX4_init_367 : decode cX4_init 367 = .ok (.return_, 1) := by decide +kernel
theorem dX4_in_0 : decode cX4_in 0 = .ok (.iload_n 0, 1) := by decide +kernel
theorem dX4_in_1 : decode cX4_in 1 = .ok (.iload_n 1, 1) := by decide +kernel
theorem dX4_in_2 : decode cX4_in 2 = .ok (.if_icmp .lt 12, 3) := by decide +kernel
theorem dX4_in_5 : decode cX4_in 5 = .ok (.iload_n 0, 1) := by decide +kernel
theorem dX4_in_6 : decode cX4_in 6 = .ok (.iload_n 2, 1) := by decide +kernel
theorem dX4_in_7 : decode cX4_in 7 = .ok (.if_icmp .gt 7, 3) := by decide +kernel
theorem dX4_in_10 : decode cX4_in 10 = .ok (.iconst 1, 1) := by decide +kernel
theorem dX4_in_11 : decode cX4_in 11 = .ok (.goto 4, 3) := by decide +kernel
theorem dX4_in_14 : decode cX4_in 14 = .ok (.iconst 0, 1) := by decide +kernel
theorem dX4_in_15 : decode cX4_in 15 = .ok (.ireturn, 1) := by decide +kernel
theorem dX4_isNet_0 : decode cX4_isNet 0 = .ok (.iload_n 0, 1) := by decide +kernel
theorem dX4_isNet_1 : decode cX4_isNet 1 = .ok (.iconst 0, 1) := by decide +kernel
theorem dX4_isNet_2 : decode cX4_isNet 2 = .ok (.iconst 2, 1) := by decide +kernel
theorem dX4_isNet_3 : decode cX4_isNet 3 = .ok (.invokestatic 112, 3) := by decide +kernel
theorem dX4_isNet_6 : decode cX4_isNet 6 = .ok (.ireturn, 1) := by decide +kernel
theorem dX4_isGate_0 : decode cX4_isGate 0 = .ok (.iload_n 2, 1) := by decide +kernel
theorem dX4_isGate_1 : decode cX4_isGate 1 = .ok (.iconst 0, 1) := by decide +kernel
theorem dX4_isGate_2 : decode cX4_isGate 2 = .ok (.aload_n 0, 1) := by decide +kernel
theorem dX4_isGate_3 : decode cX4_isGate 3 = .ok (.getfield 7, 3) := by decide +kernel
theorem dX4_isGate_6 : decode cX4_isGate 6 = .ok (.iload_n 1, 1) := by decide +kernel
theorem dX4_isGate_7 : decode cX4_isGate 7 = .ok (.iaload, 1) := by decide +kernel
theorem dX4_isGate_8 : decode cX4_isGate 8 = .ok (.iconst 1, 1) := by decide +kernel
theorem dX4_isGate_9 : decode cX4_isGate 9 = .ok (.isub, 1) := by decide +kernel
theorem dX4_isGate_10 : decode cX4_isGate 10 = .ok (.invokestatic 112, 3) := by decide +kernel
theorem dX4_isGate_13 : decode cX4_isGate 13 = .ok (.ireturn, 1) := by decide +kernel
theorem dX4_isOutput_0 : decode cX4_isOutput 0 = .ok (.iload_n 1, 1) := by decide +kernel
theorem dX4_isOutput_1 : decode cX4_isOutput 1 = .ok (.invokestatic 116, 3) := by decide +kernel
theorem dX4_isOutput_4 : decode cX4_isOutput 4 = .ok (.ifCond .eq 23, 3) := by decide +kernel
theorem dX4_isOutput_7 : decode cX4_isOutput 7 = .ok (.iload_n 2, 1) := by decide +kernel
theorem dX4_isOutput_8 : decode cX4_isOutput 8 = .ok (.iconst 0, 1) := by decide +kernel
theorem dX4_isOutput_9 : decode cX4_isOutput 9 = .ok (.aload_n 0, 1) := by decide +kernel
theorem dX4_isOutput_10 : decode cX4_isOutput 10 = .ok (.getfield 13, 3) := by decide +kernel
theorem dX4_isOutput_13 : decode cX4_isOutput 13 = .ok (.iload_n 1, 1) := by decide +kernel
theorem dX4_isOutput_14 : decode cX4_isOutput 14 = .ok (.iaload, 1) := by decide +kernel
theorem dX4_isOutput_15 : decode cX4_isOutput 15 = .ok (.iconst 1, 1) := by decide +kernel
theorem dX4_isOutput_16 : decode cX4_isOutput 16 = .ok (.isub, 1) := by decide +kernel
theorem dX4_isOutput_17 : decode cX4_isOutput 17 = .ok (.invokestatic 112, 3) := by decide +kernel
theorem dX4_isOutput_20 : decode cX4_isOutput 20 = .ok (.ifCond .eq 7, 3) := by decide +kernel
theorem dX4_isOutput_23 : decode cX4_isOutput 23 = .ok (.iconst 1, 1) := by decide +kernel
theorem dX4_isOutput_24 : decode cX4_isOutput 24 = .ok (.goto 4, 3) := by decide +kernel
theorem dX4_isOutput_27 : decode cX4_isOutput 27 = .ok (.iconst 0, 1) := by decide +kernel
theorem dX4_isOutput_28 : decode cX4_isOutput 28 = .ok (.ireturn, 1) := by decide +kernel
theorem dX4_wants_0 : decode cX4_wants 0 = .ok (.iload_n 0, 1) := by decide +kernel
theorem dX4_wants_1 : decode cX4_wants 1 = .ok (.iconst 3, 1) := by decide +kernel
theorem dX4_wants_2 : decode cX4_wants 2 = .ok (.if_icmp .ge 7, 3) := by decide +kernel
theorem dX4_wants_5 : decode cX4_wants 5 = .ok (.iconst 0, 1) := by decide +kernel
theorem dX4_wants_6 : decode cX4_wants 6 = .ok (.goto 23, 3) := by decide +kernel
theorem dX4_wants_9 : decode cX4_wants 9 = .ok (.iload_n 0, 1) := by decide +kernel
theorem dX4_wants_10 : decode cX4_wants 10 = .ok (.iconst 3, 1) := by decide +kernel
theorem dX4_wants_11 : decode cX4_wants 11 = .ok (.if_icmp .ne 7, 3) := by decide +kernel
theorem dX4_wants_14 : decode cX4_wants 14 = .ok (.iconst 1, 1) := by decide +kernel
theorem dX4_wants_15 : decode cX4_wants 15 = .ok (.goto 14, 3) := by decide +kernel
theorem dX4_wants_18 : decode cX4_wants 18 = .ok (.iload_n 0, 1) := by decide +kernel
theorem dX4_wants_19 : decode cX4_wants 19 = .ok (.bipush 10, 2) := by decide +kernel
theorem dX4_wants_21 : decode cX4_wants 21 = .ok (.if_icmp .ge 7, 3) := by decide +kernel
theorem dX4_wants_24 : decode cX4_wants 24 = .ok (.iconst 2, 1) := by decide +kernel
theorem dX4_wants_25 : decode cX4_wants 25 = .ok (.goto 4, 3) := by decide +kernel
theorem dX4_wants_28 : decode cX4_wants 28 = .ok (.iconst 3, 1) := by decide +kernel
theorem dX4_wants_29 : decode cX4_wants 29 = .ok (.ireturn, 1) := by decide +kernel
theorem dX4_gate_0 : decode cX4_gate 0 = .ok (.iload_n 1, 1) := by decide +kernel
theorem dX4_gate_1 : decode cX4_gate 1 = .ok (.invokestatic 116, 3) := by decide +kernel
theorem dX4_gate_4 : decode cX4_gate 4 = .ok (.ifCond .ne 5, 3) := by decide +kernel
theorem dX4_gate_7 : decode cX4_gate 7 = .ok (.iconst (-1), 1) := by decide +kernel
theorem dX4_gate_8 : decode cX4_gate 8 = .ok (.ireturn, 1) := by decide +kernel
theorem dX4_gate_9 : decode cX4_gate 9 = .ok (.iload_n 2, 1) := by decide +kernel
theorem dX4_gate_10 : decode cX4_gate 10 = .ok (.iconst 0, 1) := by decide +kernel
theorem dX4_gate_11 : decode cX4_gate 11 = .ok (.bipush 10, 2) := by decide +kernel
theorem dX4_gate_13 : decode cX4_gate 13 = .ok (.invokestatic 112, 3) := by decide +kernel
theorem dX4_gate_16 : decode cX4_gate 16 = .ok (.ifCond .eq 10, 3) := by decide +kernel
theorem dX4_gate_19 : decode cX4_gate 19 = .ok (.iload_n 2, 1) := by decide +kernel
theorem dX4_gate_20 : decode cX4_gate 20 = .ok (.invokestatic 120, 3) := by decide +kernel
theorem dX4_gate_23 : decode cX4_gate 23 = .ok (.goto 4, 3) := by decide +kernel
theorem dX4_gate_26 : decode cX4_gate 26 = .ok (.iconst 0, 1) := by decide +kernel
theorem dX4_gate_27 : decode cX4_gate 27 = .ok (.istore 6, 2) := by decide +kernel
theorem dX4_gate_29 : decode cX4_gate 29 = .ok (.iload 6, 2) := by decide +kernel
theorem dX4_gate_31 : decode cX4_gate 31 = .ok (.ifCond .le 12, 3) := by decide +kernel
theorem dX4_gate_34 : decode cX4_gate 34 = .ok (.aload_n 0, 1) := by decide +kernel
theorem dX4_gate_35 : decode cX4_gate 35 = .ok (.iload_n 1, 1) := by decide +kernel
theorem dX4_gate_36 : decode cX4_gate 36 = .ok (.iload_n 3, 1) := by decide +kernel
theorem dX4_gate_37 : decode cX4_gate 37 = .ok (.invokevirtual 124, 3) := by decide +kernel
theorem dX4_gate_40 : decode cX4_gate 40 = .ok (.ifCond .eq 35, 3) := by decide +kernel
theorem dX4_gate_43 : decode cX4_gate 43 = .ok (.iload 6, 2) := by decide +kernel
theorem dX4_gate_45 : decode cX4_gate 45 = .ok (.iconst 1, 1) := by decide +kernel
theorem dX4_gate_46 : decode cX4_gate 46 = .ok (.if_icmp .le 13, 3) := by decide +kernel
theorem dX4_gate_49 : decode cX4_gate 49 = .ok (.aload_n 0, 1) := by decide +kernel
theorem dX4_gate_50 : decode cX4_gate 50 = .ok (.iload_n 1, 1) := by decide +kernel
theorem dX4_gate_51 : decode cX4_gate 51 = .ok (.iload 4, 2) := by decide +kernel
theorem dX4_gate_53 : decode cX4_gate 53 = .ok (.invokevirtual 124, 3) := by decide +kernel
theorem dX4_gate_56 : decode cX4_gate 56 = .ok (.ifCond .eq 19, 3) := by decide +kernel
theorem dX4_gate_59 : decode cX4_gate 59 = .ok (.iload 6, 2) := by decide +kernel
theorem dX4_gate_61 : decode cX4_gate 61 = .ok (.iconst 2, 1) := by decide +kernel
theorem dX4_gate_62 : decode cX4_gate 62 = .ok (.if_icmp .le 15, 3) := by decide +kernel
theorem dX4_gate_65 : decode cX4_gate 65 = .ok (.aload_n 0, 1) := by decide +kernel
theorem dX4_gate_66 : decode cX4_gate 66 = .ok (.iload_n 1, 1) := by decide +kernel
theorem dX4_gate_67 : decode cX4_gate 67 = .ok (.iload 5, 2) := by decide +kernel
theorem dX4_gate_69 : decode cX4_gate 69 = .ok (.invokevirtual 124, 3) := by decide +kernel
theorem dX4_gate_72 : decode cX4_gate 72 = .ok (.ifCond .ne 5, 3) := by decide +kernel
theorem dX4_gate_75 : decode cX4_gate 75 = .ok (.iconst (-1), 1) := by decide +kernel
theorem dX4_gate_76 : decode cX4_gate 76 = .ok (.ireturn, 1) := by decide +kernel
theorem dX4_gate_77 : decode cX4_gate 77 = .ok (.iload_n 2, 1) := by decide +kernel
theorem dX4_gate_78 : decode cX4_gate 78 = .ok (.iconst 0, 1) := by decide +kernel
theorem dX4_gate_79 : decode cX4_gate 79 = .ok (.bipush 10, 2) := by decide +kernel
theorem dX4_gate_81 : decode cX4_gate 81 = .ok (.invokestatic 112, 3) := by decide +kernel
theorem dX4_gate_84 : decode cX4_gate 84 = .ok (.ifCond .eq 17, 3) := by decide +kernel
theorem dX4_gate_87 : decode cX4_gate 87 = .ok (.iload_n 2, 1) := by decide +kernel
theorem dX4_gate_88 : decode cX4_gate 88 = .ok (.ifCond .ne 16, 3) := by decide +kernel
theorem dX4_gate_91 : decode cX4_gate 91 = .ok (.iload_n 3, 1) := by decide +kernel
theorem dX4_gate_92 : decode cX4_gate 92 = .ok (.iconst 0, 1) := by decide +kernel
theorem dX4_gate_93 : decode cX4_gate 93 = .ok (.bipush 7, 2) := by decide +kernel
theorem dX4_gate_95 : decode cX4_gate 95 = .ok (.invokestatic 112, 3) := by decide +kernel
theorem dX4_gate_98 : decode cX4_gate 98 = .ok (.ifCond .ne 6, 3) := by decide +kernel
theorem dX4_gate_101 : decode cX4_gate 101 = .ok (.bipush (-2), 2) := by decide +kernel
theorem dX4_gate_103 : decode cX4_gate 103 = .ok (.ireturn, 1) := by decide +kernel
theorem dX4_gate_104 : decode cX4_gate 104 = .ok (.aload_n 0, 1) := by decide +kernel
theorem dX4_gate_105 : decode cX4_gate 105 = .ok (.getfield 7, 3) := by decide +kernel
theorem dX4_gate_108 : decode cX4_gate 108 = .ok (.iload_n 1, 1) := by decide +kernel
theorem dX4_gate_109 : decode cX4_gate 109 = .ok (.iaload, 1) := by decide +kernel
theorem dX4_gate_110 : decode cX4_gate 110 = .ok (.bipush 40, 2) := by decide +kernel
theorem dX4_gate_112 : decode cX4_gate 112 = .ok (.if_icmp .ne 6, 3) := by decide +kernel
theorem dX4_gate_115 : decode cX4_gate 115 = .ok (.bipush (-4), 2) := by decide +kernel
theorem dX4_gate_117 : decode cX4_gate 117 = .ok (.ireturn, 1) := by decide +kernel
theorem dX4_gate_118 : decode cX4_gate 118 = .ok (.bipush 40, 2) := by decide +kernel
theorem dX4_gate_120 : decode cX4_gate 120 = .ok (.iload_n 1, 1) := by decide +kernel
theorem dX4_gate_121 : decode cX4_gate 121 = .ok (.imul, 1) := by decide +kernel
theorem dX4_gate_122 : decode cX4_gate 122 = .ok (.aload_n 0, 1) := by decide +kernel
theorem dX4_gate_123 : decode cX4_gate 123 = .ok (.getfield 7, 3) := by decide +kernel
theorem dX4_gate_126 : decode cX4_gate 126 = .ok (.iload_n 1, 1) := by decide +kernel
theorem dX4_gate_127 : decode cX4_gate 127 = .ok (.iaload, 1) := by decide +kernel
theorem dX4_gate_128 : decode cX4_gate 128 = .ok (.iadd, 1) := by decide +kernel
theorem dX4_gate_129 : decode cX4_gate 129 = .ok (.istore 7, 2) := by decide +kernel
theorem dX4_gate_131 : decode cX4_gate 131 = .ok (.aload_n 0, 1) := by decide +kernel
theorem dX4_gate_132 : decode cX4_gate 132 = .ok (.getfield 16, 3) := by decide +kernel
theorem dX4_gate_135 : decode cX4_gate 135 = .ok (.iload 7, 2) := by decide +kernel
theorem dX4_gate_137 : decode cX4_gate 137 = .ok (.iload_n 2, 1) := by decide +kernel
theorem dX4_gate_138 : decode cX4_gate 138 = .ok (.iastore, 1) := by decide +kernel
theorem dX4_gate_139 : decode cX4_gate 139 = .ok (.aload_n 0, 1) := by decide +kernel
theorem dX4_gate_140 : decode cX4_gate 140 = .ok (.getfield 19, 3) := by decide +kernel
theorem dX4_gate_143 : decode cX4_gate 143 = .ok (.iconst 3, 1) := by decide +kernel
theorem dX4_gate_144 : decode cX4_gate 144 = .ok (.iload 7, 2) := by decide +kernel
theorem dX4_gate_146 : decode cX4_gate 146 = .ok (.imul, 1) := by decide +kernel
theorem dX4_gate_147 : decode cX4_gate 147 = .ok (.iload_n 3, 1) := by decide +kernel
theorem dX4_gate_148 : decode cX4_gate 148 = .ok (.iastore, 1) := by decide +kernel
theorem dX4_gate_149 : decode cX4_gate 149 = .ok (.aload_n 0, 1) := by decide +kernel
theorem dX4_gate_150 : decode cX4_gate 150 = .ok (.getfield 19, 3) := by decide +kernel
theorem dX4_gate_153 : decode cX4_gate 153 = .ok (.iconst 3, 1) := by decide +kernel
theorem dX4_gate_154 : decode cX4_gate 154 = .ok (.iload 7, 2) := by decide +kernel
theorem dX4_gate_156 : decode cX4_gate 156 = .ok (.imul, 1) := by decide +kernel
theorem dX4_gate_157 : decode cX4_gate 157 = .ok (.iconst 1, 1) := by decide +kernel
theorem dX4_gate_158 : decode cX4_gate 158 = .ok (.iadd, 1) := by decide +kernel
theorem dX4_gate_159 : decode cX4_gate 159 = .ok (.iload 4, 2) := by decide +kernel
theorem dX4_gate_161 : decode cX4_gate 161 = .ok (.iastore, 1) := by decide +kernel
theorem dX4_gate_162 : decode cX4_gate 162 = .ok (.aload_n 0, 1) := by decide +kernel
theorem dX4_gate_163 : decode cX4_gate 163 = .ok (.getfield 19, 3) := by decide +kernel
theorem dX4_gate_166 : decode cX4_gate 166 = .ok (.iconst 3, 1) := by decide +kernel
theorem dX4_gate_167 : decode cX4_gate 167 = .ok (.iload 7, 2) := by decide +kernel
theorem dX4_gate_169 : decode cX4_gate 169 = .ok (.imul, 1) := by decide +kernel
theorem dX4_gate_170 : decode cX4_gate 170 = .ok (.iconst 2, 1) := by decide +kernel
theorem dX4_gate_171 : decode cX4_gate 171 = .ok (.iadd, 1) := by decide +kernel
theorem dX4_gate_172 : decode cX4_gate 172 = .ok (.iload 5, 2) := by decide +kernel
theorem dX4_gate_174 : decode cX4_gate 174 = .ok (.iastore, 1) := by decide +kernel
theorem dX4_gate_175 : decode cX4_gate 175 = .ok (.aload_n 0, 1) := by decide +kernel
theorem dX4_gate_176 : decode cX4_gate 176 = .ok (.getfield 7, 3) := by decide +kernel
theorem dX4_gate_179 : decode cX4_gate 179 = .ok (.iload_n 1, 1) := by decide +kernel
theorem dX4_gate_180 : decode cX4_gate 180 = .ok (.dup2, 1) := by decide +kernel
theorem dX4_gate_181 : decode cX4_gate 181 = .ok (.iaload, 1) := by decide +kernel
theorem dX4_gate_182 : decode cX4_gate 182 = .ok (.iconst 1, 1) := by decide +kernel
theorem dX4_gate_183 : decode cX4_gate 183 = .ok (.iadd, 1) := by decide +kernel
theorem dX4_gate_184 : decode cX4_gate 184 = .ok (.iastore, 1) := by decide +kernel
theorem dX4_gate_185 : decode cX4_gate 185 = .ok (.aload_n 0, 1) := by decide +kernel
theorem dX4_gate_186 : decode cX4_gate 186 = .ok (.getfield 7, 3) := by decide +kernel
theorem dX4_gate_189 : decode cX4_gate 189 = .ok (.iload_n 1, 1) := by decide +kernel
theorem dX4_gate_190 : decode cX4_gate 190 = .ok (.iaload, 1) := by decide +kernel
theorem dX4_gate_191 : decode cX4_gate 191 = .ok (.iconst 1, 1) := by decide +kernel
theorem dX4_gate_192 : decode cX4_gate 192 = .ok (.isub, 1) := by decide +kernel
theorem dX4_gate_193 : decode cX4_gate 193 = .ok (.ireturn, 1) := by decide +kernel
theorem dX4_output_0 : decode cX4_output 0 = .ok (.iload_n 1, 1) := by decide +kernel
theorem dX4_output_1 : decode cX4_output 1 = .ok (.invokestatic 116, 3) := by decide +kernel
theorem dX4_output_4 : decode cX4_output 4 = .ok (.ifCond .eq 12, 3) := by decide +kernel
theorem dX4_output_7 : decode cX4_output 7 = .ok (.aload_n 0, 1) := by decide +kernel
theorem dX4_output_8 : decode cX4_output 8 = .ok (.iload_n 1, 1) := by decide +kernel
theorem dX4_output_9 : decode cX4_output 9 = .ok (.iload_n 2, 1) := by decide +kernel
theorem dX4_output_10 : decode cX4_output 10 = .ok (.invokevirtual 124, 3) := by decide +kernel
theorem dX4_output_13 : decode cX4_output 13 = .ok (.ifCond .ne 5, 3) := by decide +kernel
theorem dX4_output_16 : decode cX4_output 16 = .ok (.iconst (-1), 1) := by decide +kernel
theorem dX4_output_17 : decode cX4_output 17 = .ok (.ireturn, 1) := by decide +kernel
theorem dX4_output_18 : decode cX4_output 18 = .ok (.aload_n 0, 1) := by decide +kernel
theorem dX4_output_19 : decode cX4_output 19 = .ok (.getfield 13, 3) := by decide +kernel
theorem dX4_output_22 : decode cX4_output 22 = .ok (.iload_n 1, 1) := by decide +kernel
theorem dX4_output_23 : decode cX4_output 23 = .ok (.iaload, 1) := by decide +kernel
theorem dX4_output_24 : decode cX4_output 24 = .ok (.iconst 4, 1) := by decide +kernel
theorem dX4_output_25 : decode cX4_output 25 = .ok (.if_icmp .ne 6, 3) := by decide +kernel
theorem dX4_output_28 : decode cX4_output 28 = .ok (.bipush (-4), 2) := by decide +kernel
theorem dX4_output_30 : decode cX4_output 30 = .ok (.ireturn, 1) := by decide +kernel
theorem dX4_output_31 : decode cX4_output 31 = .ok (.aload_n 0, 1) := by decide +kernel
theorem dX4_output_32 : decode cX4_output 32 = .ok (.getfield 22, 3) := by decide +kernel
theorem dX4_output_35 : decode cX4_output 35 = .ok (.iconst 4, 1) := by decide +kernel
theorem dX4_output_36 : decode cX4_output 36 = .ok (.iload_n 1, 1) := by decide +kernel
theorem dX4_output_37 : decode cX4_output 37 = .ok (.imul, 1) := by decide +kernel
theorem dX4_output_38 : decode cX4_output 38 = .ok (.aload_n 0, 1) := by decide +kernel
theorem dX4_output_39 : decode cX4_output 39 = .ok (.getfield 13, 3) := by decide +kernel
theorem dX4_output_42 : decode cX4_output 42 = .ok (.iload_n 1, 1) := by decide +kernel
theorem dX4_output_43 : decode cX4_output 43 = .ok (.iaload, 1) := by decide +kernel
theorem dX4_output_44 : decode cX4_output 44 = .ok (.iadd, 1) := by decide +kernel
theorem dX4_output_45 : decode cX4_output 45 = .ok (.iload_n 2, 1) := by decide +kernel
theorem dX4_output_46 : decode cX4_output 46 = .ok (.iastore, 1) := by decide +kernel
theorem dX4_output_47 : decode cX4_output 47 = .ok (.aload_n 0, 1) := by decide +kernel
theorem dX4_output_48 : decode cX4_output 48 = .ok (.getfield 13, 3) := by decide +kernel
theorem dX4_output_51 : decode cX4_output 51 = .ok (.iload_n 1, 1) := by decide +kernel
theorem dX4_output_52 : decode cX4_output 52 = .ok (.dup2, 1) := by decide +kernel
theorem dX4_output_53 : decode cX4_output 53 = .ok (.iaload, 1) := by decide +kernel
theorem dX4_output_54 : decode cX4_output 54 = .ok (.iconst 1, 1) := by decide +kernel
theorem dX4_output_55 : decode cX4_output 55 = .ok (.iadd, 1) := by decide +kernel
theorem dX4_output_56 : decode cX4_output 56 = .ok (.iastore, 1) := by decide +kernel
theorem dX4_output_57 : decode cX4_output 57 = .ok (.aload_n 0, 1) := by decide +kernel
theorem dX4_output_58 : decode cX4_output 58 = .ok (.getfield 13, 3) := by decide +kernel
theorem dX4_output_61 : decode cX4_output 61 = .ok (.iload_n 1, 1) := by decide +kernel
theorem dX4_output_62 : decode cX4_output 62 = .ok (.iaload, 1) := by decide +kernel
theorem dX4_output_63 : decode cX4_output 63 = .ok (.iconst 1, 1) := by decide +kernel
theorem dX4_output_64 : decode cX4_output 64 = .ok (.isub, 1) := by decide +kernel
theorem dX4_output_65 : decode cX4_output 65 = .ok (.ireturn, 1) := by decide +kernel
theorem dX4_clear_0 : decode cX4_clear 0 = .ok (.iload_n 1, 1) := by decide +kernel
theorem dX4_clear_1 : decode cX4_clear 1 = .ok (.invokestatic 116, 3) := by decide +kernel
theorem dX4_clear_4 : decode cX4_clear 4 = .ok (.ifCond .ne 5, 3) := by decide +kernel
theorem dX4_clear_7 : decode cX4_clear 7 = .ok (.iconst (-1), 1) := by decide +kernel
theorem dX4_clear_8 : decode cX4_clear 8 = .ok (.ireturn, 1) := by decide +kernel
theorem dX4_clear_9 : decode cX4_clear 9 = .ok (.aload_n 0, 1) := by decide +kernel
theorem dX4_clear_10 : decode cX4_clear 10 = .ok (.getfield 7, 3) := by decide +kernel
theorem dX4_clear_13 : decode cX4_clear 13 = .ok (.iload_n 1, 1) := by decide +kernel
theorem dX4_clear_14 : decode cX4_clear 14 = .ok (.iaload, 1) := by decide +kernel
theorem dX4_clear_15 : decode cX4_clear 15 = .ok (.istore_n 2, 1) := by decide +kernel
theorem dX4_clear_16 : decode cX4_clear 16 = .ok (.aload_n 0, 1) := by decide +kernel
theorem dX4_clear_17 : decode cX4_clear 17 = .ok (.getfield 7, 3) := by decide +kernel
theorem dX4_clear_20 : decode cX4_clear 20 = .ok (.iload_n 1, 1) := by decide +kernel
theorem dX4_clear_21 : decode cX4_clear 21 = .ok (.iconst 0, 1) := by decide +kernel
theorem dX4_clear_22 : decode cX4_clear 22 = .ok (.iastore, 1) := by decide +kernel
theorem dX4_clear_23 : decode cX4_clear 23 = .ok (.aload_n 0, 1) := by decide +kernel
theorem dX4_clear_24 : decode cX4_clear 24 = .ok (.getfield 13, 3) := by decide +kernel
theorem dX4_clear_27 : decode cX4_clear 27 = .ok (.iload_n 1, 1) := by decide +kernel
theorem dX4_clear_28 : decode cX4_clear 28 = .ok (.iconst 0, 1) := by decide +kernel
theorem dX4_clear_29 : decode cX4_clear 29 = .ok (.iastore, 1) := by decide +kernel
theorem dX4_clear_30 : decode cX4_clear 30 = .ok (.iload_n 2, 1) := by decide +kernel
theorem dX4_clear_31 : decode cX4_clear 31 = .ok (.ireturn, 1) := by decide +kernel
theorem dX4_combined_0 : decode cX4_combined 0 = .ok (.iload_n 0, 1) := by decide +kernel
theorem dX4_combined_1 : decode cX4_combined 1 = .ok (.tableswitch 128 1 8 #[47, 49, 51, 61, 75, 89, 100, 114], 47) := by decide +kernel
theorem dX4_combined_48 : decode cX4_combined 48 = .ok (.iconst 0, 1) := by decide +kernel
theorem dX4_combined_49 : decode cX4_combined 49 = .ok (.ireturn, 1) := by decide +kernel
theorem dX4_combined_50 : decode cX4_combined 50 = .ok (.iconst 1, 1) := by decide +kernel
theorem dX4_combined_51 : decode cX4_combined 51 = .ok (.ireturn, 1) := by decide +kernel
theorem dX4_combined_52 : decode cX4_combined 52 = .ok (.iload_n 1, 1) := by decide +kernel
theorem dX4_combined_53 : decode cX4_combined 53 = .ok (.ifCond .ne 7, 3) := by decide +kernel
theorem dX4_combined_56 : decode cX4_combined 56 = .ok (.iconst 1, 1) := by decide +kernel
theorem dX4_combined_57 : decode cX4_combined 57 = .ok (.goto 4, 3) := by decide +kernel
theorem dX4_combined_60 : decode cX4_combined 60 = .ok (.iconst 0, 1) := by decide +kernel
theorem dX4_combined_61 : decode cX4_combined 61 = .ok (.ireturn, 1) := by decide +kernel
theorem dX4_combined_62 : decode cX4_combined 62 = .ok (.iload_n 1, 1) := by decide +kernel
theorem dX4_combined_63 : decode cX4_combined 63 = .ok (.ifCond .eq 11, 3) := by decide +kernel
theorem dX4_combined_66 : decode cX4_combined 66 = .ok (.iload_n 2, 1) := by decide +kernel
theorem dX4_combined_67 : decode cX4_combined 67 = .ok (.ifCond .eq 7, 3) := by decide +kernel
theorem dX4_combined_70 : decode cX4_combined 70 = .ok (.iconst 1, 1) := by decide +kernel
theorem dX4_combined_71 : decode cX4_combined 71 = .ok (.goto 4, 3) := by decide +kernel
theorem dX4_combined_74 : decode cX4_combined 74 = .ok (.iconst 0, 1) := by decide +kernel
theorem dX4_combined_75 : decode cX4_combined 75 = .ok (.ireturn, 1) := by decide +kernel
theorem dX4_combined_76 : decode cX4_combined 76 = .ok (.iload_n 1, 1) := by decide +kernel
theorem dX4_combined_77 : decode cX4_combined 77 = .ok (.ifCond .ne 7, 3) := by decide +kernel
theorem dX4_combined_80 : decode cX4_combined 80 = .ok (.iload_n 2, 1) := by decide +kernel
theorem dX4_combined_81 : decode cX4_combined 81 = .ok (.ifCond .eq 7, 3) := by decide +kernel
theorem dX4_combined_84 : decode cX4_combined 84 = .ok (.iconst 1, 1) := by decide +kernel
theorem dX4_combined_85 : decode cX4_combined 85 = .ok (.goto 4, 3) := by decide +kernel
theorem dX4_combined_88 : decode cX4_combined 88 = .ok (.iconst 0, 1) := by decide +kernel
theorem dX4_combined_89 : decode cX4_combined 89 = .ok (.ireturn, 1) := by decide +kernel
theorem dX4_combined_90 : decode cX4_combined 90 = .ok (.iload_n 1, 1) := by decide +kernel
theorem dX4_combined_91 : decode cX4_combined 91 = .ok (.iload_n 2, 1) := by decide +kernel
theorem dX4_combined_92 : decode cX4_combined 92 = .ok (.if_icmp .eq 7, 3) := by decide +kernel
theorem dX4_combined_95 : decode cX4_combined 95 = .ok (.iconst 1, 1) := by decide +kernel
theorem dX4_combined_96 : decode cX4_combined 96 = .ok (.goto 4, 3) := by decide +kernel
theorem dX4_combined_99 : decode cX4_combined 99 = .ok (.iconst 0, 1) := by decide +kernel
theorem dX4_combined_100 : decode cX4_combined 100 = .ok (.ireturn, 1) := by decide +kernel
theorem dX4_combined_101 : decode cX4_combined 101 = .ok (.iload_n 1, 1) := by decide +kernel
theorem dX4_combined_102 : decode cX4_combined 102 = .ok (.ifCond .eq 7, 3) := by decide +kernel
theorem dX4_combined_105 : decode cX4_combined 105 = .ok (.iload_n 2, 1) := by decide +kernel
theorem dX4_combined_106 : decode cX4_combined 106 = .ok (.ifCond .ne 7, 3) := by decide +kernel
theorem dX4_combined_109 : decode cX4_combined 109 = .ok (.iconst 1, 1) := by decide +kernel
theorem dX4_combined_110 : decode cX4_combined 110 = .ok (.goto 4, 3) := by decide +kernel
theorem dX4_combined_113 : decode cX4_combined 113 = .ok (.iconst 0, 1) := by decide +kernel
theorem dX4_combined_114 : decode cX4_combined 114 = .ok (.ireturn, 1) := by decide +kernel
theorem dX4_combined_115 : decode cX4_combined 115 = .ok (.iload_n 1, 1) := by decide +kernel
theorem dX4_combined_116 : decode cX4_combined 116 = .ok (.ifCond .ne 11, 3) := by decide +kernel
theorem dX4_combined_119 : decode cX4_combined 119 = .ok (.iload_n 2, 1) := by decide +kernel
theorem dX4_combined_120 : decode cX4_combined 120 = .ok (.ifCond .ne 7, 3) := by decide +kernel
theorem dX4_combined_123 : decode cX4_combined 123 = .ok (.iconst 1, 1) := by decide +kernel
theorem dX4_combined_124 : decode cX4_combined 124 = .ok (.goto 4, 3) := by decide +kernel
theorem dX4_combined_127 : decode cX4_combined 127 = .ok (.iconst 0, 1) := by decide +kernel
theorem dX4_combined_128 : decode cX4_combined 128 = .ok (.ireturn, 1) := by decide +kernel
theorem dX4_combined_129 : decode cX4_combined 129 = .ok (.iload_n 1, 1) := by decide +kernel
theorem dX4_combined_130 : decode cX4_combined 130 = .ok (.iload_n 2, 1) := by decide +kernel
theorem dX4_combined_131 : decode cX4_combined 131 = .ok (.if_icmp .ne 7, 3) := by decide +kernel
theorem dX4_combined_134 : decode cX4_combined 134 = .ok (.iconst 1, 1) := by decide +kernel
theorem dX4_combined_135 : decode cX4_combined 135 = .ok (.goto 4, 3) := by decide +kernel
theorem dX4_combined_138 : decode cX4_combined 138 = .ok (.iconst 0, 1) := by decide +kernel
theorem dX4_combined_139 : decode cX4_combined 139 = .ok (.ireturn, 1) := by decide +kernel
theorem dX4_gives_0 : decode cX4_gives 0 = .ok (.aload_n 0, 1) := by decide +kernel
theorem dX4_gives_1 : decode cX4_gives 1 = .ok (.iload_n 1, 1) := by decide +kernel
theorem dX4_gives_2 : decode cX4_gives 2 = .ok (.iload_n 2, 1) := by decide +kernel
theorem dX4_gives_3 : decode cX4_gives 3 = .ok (.invokevirtual 128, 3) := by decide +kernel
theorem dX4_gives_6 : decode cX4_gives 6 = .ok (.ifCond .ne 5, 3) := by decide +kernel
theorem dX4_gives_9 : decode cX4_gives 9 = .ok (.iconst (-1), 1) := by decide +kernel
theorem dX4_gives_10 : decode cX4_gives 10 = .ok (.ireturn, 1) := by decide +kernel
theorem dX4_gives_11 : decode cX4_gives 11 = .ok (.iload_n 3, 1) := by decide +kernel
theorem dX4_gives_12 : decode cX4_gives 12 = .ok (.iconst 0, 1) := by decide +kernel
theorem dX4_gives_13 : decode cX4_gives 13 = .ok (.sipush 255, 3) := by decide +kernel
theorem dX4_gives_16 : decode cX4_gives 16 = .ok (.invokestatic 112, 3) := by decide +kernel
theorem dX4_gives_19 : decode cX4_gives 19 = .ok (.ifCond .ne 6, 3) := by decide +kernel
theorem dX4_gives_22 : decode cX4_gives 22 = .ok (.bipush (-2), 2) := by decide +kernel
theorem dX4_gives_24 : decode cX4_gives 24 = .ok (.ireturn, 1) := by decide +kernel
theorem dX4_gives_25 : decode cX4_gives 25 = .ok (.iconst 0, 1) := by decide +kernel
theorem dX4_gives_26 : decode cX4_gives 26 = .ok (.istore 4, 2) := by decide +kernel
theorem dX4_gives_28 : decode cX4_gives 28 = .ok (.iload 4, 2) := by decide +kernel
theorem dX4_gives_30 : decode cX4_gives 30 = .ok (.aload_n 0, 1) := by decide +kernel
theorem dX4_gives_31 : decode cX4_gives 31 = .ok (.getfield 7, 3) := by decide +kernel
theorem dX4_gives_34 : decode cX4_gives 34 = .ok (.iload_n 1, 1) := by decide +kernel
theorem dX4_gives_35 : decode cX4_gives 35 = .ok (.iaload, 1) := by decide +kernel
theorem dX4_gives_36 : decode cX4_gives 36 = .ok (.if_icmp .ge 177, 3) := by decide +kernel
theorem dX4_gives_39 : decode cX4_gives 39 = .ok (.bipush 40, 2) := by decide +kernel
theorem dX4_gives_41 : decode cX4_gives 41 = .ok (.iload_n 1, 1) := by decide +kernel
theorem dX4_gives_42 : decode cX4_gives 42 = .ok (.imul, 1) := by decide +kernel
theorem dX4_gives_43 : decode cX4_gives 43 = .ok (.iload 4, 2) := by decide +kernel
theorem dX4_gives_45 : decode cX4_gives 45 = .ok (.iadd, 1) := by decide +kernel
theorem dX4_gives_46 : decode cX4_gives 46 = .ok (.istore 5, 2) := by decide +kernel
theorem dX4_gives_48 : decode cX4_gives 48 = .ok (.aload_n 0, 1) := by decide +kernel
theorem dX4_gives_49 : decode cX4_gives 49 = .ok (.getfield 16, 3) := by decide +kernel
theorem dX4_gives_52 : decode cX4_gives 52 = .ok (.iload 5, 2) := by decide +kernel
theorem dX4_gives_54 : decode cX4_gives 54 = .ok (.iaload, 1) := by decide +kernel
theorem dX4_gives_55 : decode cX4_gives 55 = .ok (.istore 6, 2) := by decide +kernel
theorem dX4_gives_57 : decode cX4_gives 57 = .ok (.iload 6, 2) := by decide +kernel
theorem dX4_gives_59 : decode cX4_gives 59 = .ok (.invokestatic 120, 3) := by decide +kernel
theorem dX4_gives_62 : decode cX4_gives 62 = .ok (.istore 7, 2) := by decide +kernel
theorem dX4_gives_64 : decode cX4_gives 64 = .ok (.iload 7, 2) := by decide +kernel
theorem dX4_gives_66 : decode cX4_gives 66 = .ok (.ifCond .le 24, 3) := by decide +kernel
theorem dX4_gives_69 : decode cX4_gives 69 = .ok (.aload_n 0, 1) := by decide +kernel
theorem dX4_gives_70 : decode cX4_gives 70 = .ok (.getfield 25, 3) := by decide +kernel
theorem dX4_gives_73 : decode cX4_gives 73 = .ok (.aload_n 0, 1) := by decide +kernel
theorem dX4_gives_74 : decode cX4_gives 74 = .ok (.getfield 19, 3) := by decide +kernel
theorem dX4_gives_77 : decode cX4_gives 77 = .ok (.iconst 3, 1) := by decide +kernel
theorem dX4_gives_78 : decode cX4_gives 78 = .ok (.iload 5, 2) := by decide +kernel
theorem dX4_gives_80 : decode cX4_gives 80 = .ok (.imul, 1) := by decide +kernel
theorem dX4_gives_81 : decode cX4_gives 81 = .ok (.iaload, 1) := by decide +kernel
theorem dX4_gives_82 : decode cX4_gives 82 = .ok (.baload, 1) := by decide +kernel
theorem dX4_gives_83 : decode cX4_gives 83 = .ok (.ifCond .eq 7, 3) := by decide +kernel
theorem dX4_gives_86 : decode cX4_gives 86 = .ok (.iconst 1, 1) := by decide +kernel
theorem dX4_gives_87 : decode cX4_gives 87 = .ok (.goto 4, 3) := by decide +kernel
theorem dX4_gives_90 : decode cX4_gives 90 = .ok (.iconst 0, 1) := by decide +kernel
theorem dX4_gives_91 : decode cX4_gives 91 = .ok (.istore 8, 2) := by decide +kernel
theorem dX4_gives_93 : decode cX4_gives 93 = .ok (.iload 7, 2) := by decide +kernel
theorem dX4_gives_95 : decode cX4_gives 95 = .ok (.iconst 1, 1) := by decide +kernel
theorem dX4_gives_96 : decode cX4_gives 96 = .ok (.if_icmp .le 26, 3) := by decide +kernel
theorem dX4_gives_99 : decode cX4_gives 99 = .ok (.aload_n 0, 1) := by decide +kernel
theorem dX4_gives_100 : decode cX4_gives 100 = .ok (.getfield 25, 3) := by decide +kernel
theorem dX4_gives_103 : decode cX4_gives 103 = .ok (.aload_n 0, 1) := by decide +kernel
theorem dX4_gives_104 : decode cX4_gives 104 = .ok (.getfield 19, 3) := by decide +kernel
theorem dX4_gives_107 : decode cX4_gives 107 = .ok (.iconst 3, 1) := by decide +kernel
theorem dX4_gives_108 : decode cX4_gives 108 = .ok (.iload 5, 2) := by decide +kernel
theorem dX4_gives_110 : decode cX4_gives 110 = .ok (.imul, 1) := by decide +kernel
theorem dX4_gives_111 : decode cX4_gives 111 = .ok (.iconst 1, 1) := by decide +kernel
theorem dX4_gives_112 : decode cX4_gives 112 = .ok (.iadd, 1) := by decide +kernel
theorem dX4_gives_113 : decode cX4_gives 113 = .ok (.iaload, 1) := by decide +kernel
theorem dX4_gives_114 : decode cX4_gives 114 = .ok (.baload, 1) := by decide +kernel
theorem dX4_gives_115 : decode cX4_gives 115 = .ok (.ifCond .eq 7, 3) := by decide +kernel
theorem dX4_gives_118 : decode cX4_gives 118 = .ok (.iconst 1, 1) := by decide +kernel
theorem dX4_gives_119 : decode cX4_gives 119 = .ok (.goto 4, 3) := by decide +kernel
theorem dX4_gives_122 : decode cX4_gives 122 = .ok (.iconst 0, 1) := by decide +kernel
theorem dX4_gives_123 : decode cX4_gives 123 = .ok (.istore 9, 2) := by decide +kernel
theorem dX4_gives_125 : decode cX4_gives 125 = .ok (.aload_n 0, 1) := by decide +kernel
theorem dX4_gives_126 : decode cX4_gives 126 = .ok (.getfield 25, 3) := by decide +kernel
theorem dX4_gives_129 : decode cX4_gives 129 = .ok (.iload 4, 2) := by decide +kernel
theorem dX4_gives_131 : decode cX4_gives 131 = .ok (.iload 6, 2) := by decide +kernel
theorem dX4_gives_133 : decode cX4_gives 133 = .ok (.ifCond .ne 28, 3) := by decide +kernel
theorem dX4_gives_136 : decode cX4_gives 136 = .ok (.iload_n 3, 1) := by decide +kernel
theorem dX4_gives_137 : decode cX4_gives 137 = .ok (.aload_n 0, 1) := by decide +kernel
theorem dX4_gives_138 : decode cX4_gives 138 = .ok (.getfield 19, 3) := by decide +kernel
theorem dX4_gives_141 : decode cX4_gives 141 = .ok (.iconst 3, 1) := by decide +kernel
theorem dX4_gives_142 : decode cX4_gives 142 = .ok (.iload 5, 2) := by decide +kernel
theorem dX4_gives_144 : decode cX4_gives 144 = .ok (.imul, 1) := by decide +kernel
theorem dX4_gives_145 : decode cX4_gives 145 = .ok (.iaload, 1) := by decide +kernel
theorem dX4_gives_146 : decode cX4_gives 146 = .ok (.ishr, 1) := by decide +kernel
theorem dX4_gives_147 : decode cX4_gives 147 = .ok (.iconst 1, 1) := by decide +kernel
theorem dX4_gives_148 : decode cX4_gives 148 = .ok (.iand, 1) := by decide +kernel
theorem dX4_gives_149 : decode cX4_gives 149 = .ok (.iconst 1, 1) := by decide +kernel
theorem dX4_gives_150 : decode cX4_gives 150 = .ok (.if_icmp .ne 7, 3) := by decide +kernel
theorem dX4_gives_153 : decode cX4_gives 153 = .ok (.iconst 1, 1) := by decide +kernel
theorem dX4_gives_154 : decode cX4_gives 154 = .ok (.goto 52, 3) := by decide +kernel
theorem dX4_gives_157 : decode cX4_gives 157 = .ok (.iconst 0, 1) := by decide +kernel
theorem dX4_gives_158 : decode cX4_gives 158 = .ok (.goto 48, 3) := by decide +kernel
theorem dX4_gives_161 : decode cX4_gives 161 = .ok (.iload 6, 2) := by decide +kernel
theorem dX4_gives_163 : decode cX4_gives 163 = .ok (.bipush 10, 2) := by decide +kernel
theorem dX4_gives_165 : decode cX4_gives 165 = .ok (.if_icmp .ne 32, 3) := by decide +kernel
theorem dX4_gives_168 : decode cX4_gives 168 = .ok (.iload 8, 2) := by decide +kernel
theorem dX4_gives_170 : decode cX4_gives 170 = .ok (.ifCond .eq 8, 3) := by decide +kernel
theorem dX4_gives_173 : decode cX4_gives 173 = .ok (.iload 9, 2) := by decide +kernel
theorem dX4_gives_175 : decode cX4_gives 175 = .ok (.goto 31, 3) := by decide +kernel
theorem dX4_gives_178 : decode cX4_gives 178 = .ok (.aload_n 0, 1) := by decide +kernel
theorem dX4_gives_179 : decode cX4_gives 179 = .ok (.getfield 25, 3) := by decide +kernel
theorem dX4_gives_182 : decode cX4_gives 182 = .ok (.aload_n 0, 1) := by decide +kernel
theorem dX4_gives_183 : decode cX4_gives 183 = .ok (.getfield 19, 3) := by decide +kernel
theorem dX4_gives_186 : decode cX4_gives 186 = .ok (.iconst 3, 1) := by decide +kernel
theorem dX4_gives_187 : decode cX4_gives 187 = .ok (.iload 5, 2) := by decide +kernel
theorem dX4_gives_189 : decode cX4_gives 189 = .ok (.imul, 1) := by decide +kernel
theorem dX4_gives_190 : decode cX4_gives 190 = .ok (.iconst 2, 1) := by decide +kernel
theorem dX4_gives_191 : decode cX4_gives 191 = .ok (.iadd, 1) := by decide +kernel
theorem dX4_gives_192 : decode cX4_gives 192 = .ok (.iaload, 1) := by decide +kernel
theorem dX4_gives_193 : decode cX4_gives 193 = .ok (.baload, 1) := by decide +kernel
theorem dX4_gives_194 : decode cX4_gives 194 = .ok (.goto 12, 3) := by decide +kernel
theorem dX4_gives_197 : decode cX4_gives 197 = .ok (.iload 6, 2) := by decide +kernel
theorem dX4_gives_199 : decode cX4_gives 199 = .ok (.iload 8, 2) := by decide +kernel
theorem dX4_gives_201 : decode cX4_gives 201 = .ok (.iload 9, 2) := by decide +kernel
theorem dX4_gives_203 : decode cX4_gives 203 = .ok (.invokestatic 131, 3) := by decide +kernel
theorem dX4_gives_206 : decode cX4_gives 206 = .ok (.bastore, 1) := by decide +kernel
theorem dX4_gives_207 : decode cX4_gives 207 = .ok (.iinc 4 1, 3) := by decide +kernel
theorem dX4_gives_210 : decode cX4_gives 210 = .ok (.goto (-182), 3) := by decide +kernel
theorem dX4_gives_213 : decode cX4_gives 213 = .ok (.aload_n 0, 1) := by decide +kernel
theorem dX4_gives_214 : decode cX4_gives 214 = .ok (.getfield 25, 3) := by decide +kernel
theorem dX4_gives_217 : decode cX4_gives 217 = .ok (.aload_n 0, 1) := by decide +kernel
theorem dX4_gives_218 : decode cX4_gives 218 = .ok (.getfield 22, 3) := by decide +kernel
theorem dX4_gives_221 : decode cX4_gives 221 = .ok (.iconst 4, 1) := by decide +kernel
theorem dX4_gives_222 : decode cX4_gives 222 = .ok (.iload_n 1, 1) := by decide +kernel
theorem dX4_gives_223 : decode cX4_gives 223 = .ok (.imul, 1) := by decide +kernel
theorem dX4_gives_224 : decode cX4_gives 224 = .ok (.iload_n 2, 1) := by decide +kernel
theorem dX4_gives_225 : decode cX4_gives 225 = .ok (.iadd, 1) := by decide +kernel
theorem dX4_gives_226 : decode cX4_gives 226 = .ok (.iaload, 1) := by decide +kernel
theorem dX4_gives_227 : decode cX4_gives 227 = .ok (.baload, 1) := by decide +kernel
theorem dX4_gives_228 : decode cX4_gives 228 = .ok (.ifCond .eq 7, 3) := by decide +kernel
theorem dX4_gives_231 : decode cX4_gives 231 = .ok (.iconst 1, 1) := by decide +kernel
theorem dX4_gives_232 : decode cX4_gives 232 = .ok (.goto 4, 3) := by decide +kernel
theorem dX4_gives_235 : decode cX4_gives 235 = .ok (.iconst 0, 1) := by decide +kernel
theorem dX4_gives_236 : decode cX4_gives 236 = .ok (.ireturn, 1) := by decide +kernel
theorem dX4_isEmpty_0 : decode cX4_isEmpty 0 = .ok (.iconst 1, 1) := by decide +kernel
theorem dX4_isEmpty_1 : decode cX4_isEmpty 1 = .ok (.istore_n 1, 1) := by decide +kernel
theorem dX4_isEmpty_2 : decode cX4_isEmpty 2 = .ok (.iconst 0, 1) := by decide +kernel
theorem dX4_isEmpty_3 : decode cX4_isEmpty 3 = .ok (.istore_n 2, 1) := by decide +kernel
theorem dX4_isEmpty_4 : decode cX4_isEmpty 4 = .ok (.iload_n 2, 1) := by decide +kernel
theorem dX4_isEmpty_5 : decode cX4_isEmpty 5 = .ok (.bipush 12, 2) := by decide +kernel
theorem dX4_isEmpty_7 : decode cX4_isEmpty 7 = .ok (.if_icmp .ge 28, 3) := by decide +kernel
theorem dX4_isEmpty_10 : decode cX4_isEmpty 10 = .ok (.iload_n 1, 1) := by decide +kernel
theorem dX4_isEmpty_11 : decode cX4_isEmpty 11 = .ok (.ifCond .eq 16, 3) := by decide +kernel
theorem dX4_isEmpty_14 : decode cX4_isEmpty 14 = .ok (.aload_n 0, 1) := by decide +kernel
theorem dX4_isEmpty_15 : decode cX4_isEmpty 15 = .ok (.getfield 44, 3) := by decide +kernel
theorem dX4_isEmpty_18 : decode cX4_isEmpty 18 = .ok (.iload_n 2, 1) := by decide +kernel
theorem dX4_isEmpty_19 : decode cX4_isEmpty 19 = .ok (.baload, 1) := by decide +kernel
theorem dX4_isEmpty_20 : decode cX4_isEmpty 20 = .ok (.ifCond .ne 7, 3) := by decide +kernel
theorem dX4_isEmpty_23 : decode cX4_isEmpty 23 = .ok (.iconst 1, 1) := by decide +kernel
theorem dX4_isEmpty_24 : decode cX4_isEmpty 24 = .ok (.goto 4, 3) := by decide +kernel
theorem dX4_isEmpty_27 : decode cX4_isEmpty 27 = .ok (.iconst 0, 1) := by decide +kernel
theorem dX4_isEmpty_28 : decode cX4_isEmpty 28 = .ok (.istore_n 1, 1) := by decide +kernel
theorem dX4_isEmpty_29 : decode cX4_isEmpty 29 = .ok (.iinc 2 1, 3) := by decide +kernel
theorem dX4_isEmpty_32 : decode cX4_isEmpty 32 = .ok (.goto (-28), 3) := by decide +kernel
theorem dX4_isEmpty_35 : decode cX4_isEmpty 35 = .ok (.iload_n 1, 1) := by decide +kernel
theorem dX4_isEmpty_36 : decode cX4_isEmpty 36 = .ok (.ireturn, 1) := by decide +kernel
theorem dX4_go_0 : decode cX4_go 0 = .ok (.aload_n 0, 1) := by decide +kernel
theorem dX4_go_1 : decode cX4_go 1 = .ok (.getfield 35, 3) := by decide +kernel
theorem dX4_go_4 : decode cX4_go 4 = .ok (.iload_n 2, 1) := by decide +kernel
theorem dX4_go_5 : decode cX4_go 5 = .ok (.baload, 1) := by decide +kernel
theorem dX4_go_6 : decode cX4_go 6 = .ok (.ifCond .ne 116, 3) := by decide +kernel
theorem dX4_go_9 : decode cX4_go 9 = .ok (.aload_n 0, 1) := by decide +kernel
theorem dX4_go_10 : decode cX4_go 10 = .ok (.getfield 35, 3) := by decide +kernel
theorem dX4_go_13 : decode cX4_go 13 = .ok (.iload_n 2, 1) := by decide +kernel
theorem dX4_go_14 : decode cX4_go 14 = .ok (.iconst 1, 1) := by decide +kernel
theorem dX4_go_15 : decode cX4_go 15 = .ok (.bastore, 1) := by decide +kernel
theorem dX4_go_16 : decode cX4_go 16 = .ok (.aload_n 0, 1) := by decide +kernel
theorem dX4_go_17 : decode cX4_go 17 = .ok (.getfield 38, 3) := by decide +kernel
theorem dX4_go_20 : decode cX4_go 20 = .ok (.aload_n 0, 1) := by decide +kernel
theorem dX4_go_21 : decode cX4_go 21 = .ok (.getfield 135, 3) := by decide +kernel
theorem dX4_go_24 : decode cX4_go 24 = .ok (.iload_n 2, 1) := by decide +kernel
theorem dX4_go_25 : decode cX4_go 25 = .ok (.iastore, 1) := by decide +kernel
theorem dX4_go_26 : decode cX4_go 26 = .ok (.aload_n 0, 1) := by decide +kernel
theorem dX4_go_27 : decode cX4_go 27 = .ok (.getfield 41, 3) := by decide +kernel
theorem dX4_go_30 : decode cX4_go 30 = .ok (.aload_n 0, 1) := by decide +kernel
theorem dX4_go_31 : decode cX4_go 31 = .ok (.getfield 135, 3) := by decide +kernel
theorem dX4_go_34 : decode cX4_go 34 = .ok (.iconst 0, 1) := by decide +kernel
theorem dX4_go_35 : decode cX4_go 35 = .ok (.iastore, 1) := by decide +kernel
theorem dX4_go_36 : decode cX4_go 36 = .ok (.aload_n 0, 1) := by decide +kernel
theorem dX4_go_37 : decode cX4_go 37 = .ok (.dup, 1) := by decide +kernel
theorem dX4_go_38 : decode cX4_go 38 = .ok (.getfield 135, 3) := by decide +kernel
theorem dX4_go_41 : decode cX4_go 41 = .ok (.iconst 1, 1) := by decide +kernel
theorem dX4_go_42 : decode cX4_go 42 = .ok (.iadd, 1) := by decide +kernel
theorem dX4_go_43 : decode cX4_go 43 = .ok (.putfield 135, 3) := by decide +kernel
theorem dX4_go_46 : decode cX4_go 46 = .ok (.bipush 40, 2) := by decide +kernel
theorem dX4_go_48 : decode cX4_go 48 = .ok (.iload_n 1, 1) := by decide +kernel
theorem dX4_go_49 : decode cX4_go 49 = .ok (.imul, 1) := by decide +kernel
theorem dX4_go_50 : decode cX4_go 50 = .ok (.iload_n 2, 1) := by decide +kernel
theorem dX4_go_51 : decode cX4_go 51 = .ok (.iadd, 1) := by decide +kernel
theorem dX4_go_52 : decode cX4_go 52 = .ok (.istore_n 3, 1) := by decide +kernel
theorem dX4_go_53 : decode cX4_go 53 = .ok (.aload_n 0, 1) := by decide +kernel
theorem dX4_go_54 : decode cX4_go 54 = .ok (.getfield 16, 3) := by decide +kernel
theorem dX4_go_57 : decode cX4_go 57 = .ok (.iload_n 3, 1) := by decide +kernel
theorem dX4_go_58 : decode cX4_go 58 = .ok (.iaload, 1) := by decide +kernel
theorem dX4_go_59 : decode cX4_go 59 = .ok (.ifCond .ne 63, 3) := by decide +kernel
theorem dX4_go_62 : decode cX4_go 62 = .ok (.aload_n 0, 1) := by decide +kernel
theorem dX4_go_63 : decode cX4_go 63 = .ok (.getfield 32, 3) := by decide +kernel
theorem dX4_go_66 : decode cX4_go 66 = .ok (.aload_n 0, 1) := by decide +kernel
theorem dX4_go_67 : decode cX4_go 67 = .ok (.getfield 19, 3) := by decide +kernel
theorem dX4_go_70 : decode cX4_go 70 = .ok (.iconst 3, 1) := by decide +kernel
theorem dX4_go_71 : decode cX4_go 71 = .ok (.iload_n 3, 1) := by decide +kernel
theorem dX4_go_72 : decode cX4_go 72 = .ok (.imul, 1) := by decide +kernel
theorem dX4_go_73 : decode cX4_go 73 = .ok (.iaload, 1) := by decide +kernel
theorem dX4_go_74 : decode cX4_go 74 = .ok (.iaload, 1) := by decide +kernel
theorem dX4_go_75 : decode cX4_go 75 = .ok (.ifCond .ge 47, 3) := by decide +kernel
theorem dX4_go_78 : decode cX4_go 78 = .ok (.aload_n 0, 1) := by decide +kernel
theorem dX4_go_79 : decode cX4_go 79 = .ok (.getfield 32, 3) := by decide +kernel
theorem dX4_go_82 : decode cX4_go 82 = .ok (.aload_n 0, 1) := by decide +kernel
theorem dX4_go_83 : decode cX4_go 83 = .ok (.getfield 19, 3) := by decide +kernel
theorem dX4_go_86 : decode cX4_go 86 = .ok (.iconst 3, 1) := by decide +kernel
theorem dX4_go_87 : decode cX4_go 87 = .ok (.iload_n 3, 1) := by decide +kernel
theorem dX4_go_88 : decode cX4_go 88 = .ok (.imul, 1) := by decide +kernel
theorem dX4_go_89 : decode cX4_go 89 = .ok (.iaload, 1) := by decide +kernel
theorem dX4_go_90 : decode cX4_go 90 = .ok (.aload_n 0, 1) := by decide +kernel
theorem dX4_go_91 : decode cX4_go 91 = .ok (.getfield 138, 3) := by decide +kernel
theorem dX4_go_94 : decode cX4_go 94 = .ok (.iastore, 1) := by decide +kernel
theorem dX4_go_95 : decode cX4_go 95 = .ok (.aload_n 0, 1) := by decide +kernel
theorem dX4_go_96 : decode cX4_go 96 = .ok (.getfield 29, 3) := by decide +kernel
theorem dX4_go_99 : decode cX4_go 99 = .ok (.aload_n 0, 1) := by decide +kernel
theorem dX4_go_100 : decode cX4_go 100 = .ok (.getfield 138, 3) := by decide +kernel
theorem dX4_go_103 : decode cX4_go 103 = .ok (.aload_n 0, 1) := by decide +kernel
theorem dX4_go_104 : decode cX4_go 104 = .ok (.getfield 19, 3) := by decide +kernel
theorem dX4_go_107 : decode cX4_go 107 = .ok (.iconst 3, 1) := by decide +kernel
theorem dX4_go_108 : decode cX4_go 108 = .ok (.iload_n 3, 1) := by decide +kernel
theorem dX4_go_109 : decode cX4_go 109 = .ok (.imul, 1) := by decide +kernel
theorem dX4_go_110 : decode cX4_go 110 = .ok (.iaload, 1) := by decide +kernel
theorem dX4_go_111 : decode cX4_go 111 = .ok (.iastore, 1) := by decide +kernel
theorem dX4_go_112 : decode cX4_go 112 = .ok (.aload_n 0, 1) := by decide +kernel
theorem dX4_go_113 : decode cX4_go 113 = .ok (.dup, 1) := by decide +kernel
theorem dX4_go_114 : decode cX4_go 114 = .ok (.getfield 138, 3) := by decide +kernel
theorem dX4_go_117 : decode cX4_go 117 = .ok (.iconst 1, 1) := by decide +kernel
theorem dX4_go_118 : decode cX4_go 118 = .ok (.iadd, 1) := by decide +kernel
theorem dX4_go_119 : decode cX4_go 119 = .ok (.putfield 138, 3) := by decide +kernel
theorem dX4_go_122 : decode cX4_go 122 = .ok (.return_, 1) := by decide +kernel
theorem dX4_order_0 : decode cX4_order 0 = .ok (.iload_n 1, 1) := by decide +kernel
theorem dX4_order_1 : decode cX4_order 1 = .ok (.invokestatic 116, 3) := by decide +kernel
theorem dX4_order_4 : decode cX4_order 4 = .ok (.ifCond .ne 5, 3) := by decide +kernel
theorem dX4_order_7 : decode cX4_order 7 = .ok (.iconst (-1), 1) := by decide +kernel
theorem dX4_order_8 : decode cX4_order 8 = .ok (.ireturn, 1) := by decide +kernel
theorem dX4_order_9 : decode cX4_order 9 = .ok (.aload_n 0, 1) := by decide +kernel
theorem dX4_order_10 : decode cX4_order 10 = .ok (.invokevirtual 141, 3) := by decide +kernel
theorem dX4_order_13 : decode cX4_order 13 = .ok (.ifCond .ne 6, 3) := by decide +kernel
theorem dX4_order_16 : decode cX4_order 16 = .ok (.bipush (-3), 2) := by decide +kernel
theorem dX4_order_18 : decode cX4_order 18 = .ok (.ireturn, 1) := by decide +kernel
theorem dX4_order_19 : decode cX4_order 19 = .ok (.aload_n 0, 1) := by decide +kernel
theorem dX4_order_20 : decode cX4_order 20 = .ok (.iconst 0, 1) := by decide +kernel
theorem dX4_order_21 : decode cX4_order 21 = .ok (.putfield 138, 3) := by decide +kernel
theorem dX4_order_24 : decode cX4_order 24 = .ok (.aload_n 0, 1) := by decide +kernel
theorem dX4_order_25 : decode cX4_order 25 = .ok (.iconst 0, 1) := by decide +kernel
theorem dX4_order_26 : decode cX4_order 26 = .ok (.putfield 135, 3) := by decide +kernel
theorem dX4_order_29 : decode cX4_order 29 = .ok (.iconst 0, 1) := by decide +kernel
theorem dX4_order_30 : decode cX4_order 30 = .ok (.istore_n 2, 1) := by decide +kernel
theorem dX4_order_31 : decode cX4_order 31 = .ok (.iload_n 2, 1) := by decide +kernel
theorem dX4_order_32 : decode cX4_order 32 = .ok (.bipush 40, 2) := by decide +kernel
theorem dX4_order_34 : decode cX4_order 34 = .ok (.if_icmp .ge 16, 3) := by decide +kernel
theorem dX4_order_37 : decode cX4_order 37 = .ok (.aload_n 0, 1) := by decide +kernel
theorem dX4_order_38 : decode cX4_order 38 = .ok (.getfield 35, 3) := by decide +kernel
theorem dX4_order_41 : decode cX4_order 41 = .ok (.iload_n 2, 1) := by decide +kernel
theorem dX4_order_42 : decode cX4_order 42 = .ok (.iconst 0, 1) := by decide +kernel
theorem dX4_order_43 : decode cX4_order 43 = .ok (.bastore, 1) := by decide +kernel
theorem dX4_order_44 : decode cX4_order 44 = .ok (.iinc 2 1, 3) := by decide +kernel
theorem dX4_order_47 : decode cX4_order 47 = .ok (.goto (-16), 3) := by decide +kernel
theorem dX4_order_50 : decode cX4_order 50 = .ok (.iconst 0, 1) := by decide +kernel
theorem dX4_order_51 : decode cX4_order 51 = .ok (.istore_n 2, 1) := by decide +kernel
theorem dX4_order_52 : decode cX4_order 52 = .ok (.iload_n 2, 1) := by decide +kernel
theorem dX4_order_53 : decode cX4_order 53 = .ok (.bipush 8, 2) := by decide +kernel
theorem dX4_order_55 : decode cX4_order 55 = .ok (.if_icmp .ge 16, 3) := by decide +kernel
theorem dX4_order_58 : decode cX4_order 58 = .ok (.aload_n 0, 1) := by decide +kernel
theorem dX4_order_59 : decode cX4_order 59 = .ok (.getfield 32, 3) := by decide +kernel
theorem dX4_order_62 : decode cX4_order 62 = .ok (.iload_n 2, 1) := by decide +kernel
theorem dX4_order_63 : decode cX4_order 63 = .ok (.iconst (-1), 1) := by decide +kernel
theorem dX4_order_64 : decode cX4_order 64 = .ok (.iastore, 1) := by decide +kernel
theorem dX4_order_65 : decode cX4_order 65 = .ok (.iinc 2 1, 3) := by decide +kernel
theorem dX4_order_68 : decode cX4_order 68 = .ok (.goto (-16), 3) := by decide +kernel
theorem dX4_order_71 : decode cX4_order 71 = .ok (.iconst 0, 1) := by decide +kernel
theorem dX4_order_72 : decode cX4_order 72 = .ok (.istore_n 2, 1) := by decide +kernel
theorem dX4_order_73 : decode cX4_order 73 = .ok (.iload_n 2, 1) := by decide +kernel
theorem dX4_order_74 : decode cX4_order 74 = .ok (.aload_n 0, 1) := by decide +kernel
theorem dX4_order_75 : decode cX4_order 75 = .ok (.getfield 13, 3) := by decide +kernel
theorem dX4_order_78 : decode cX4_order 78 = .ok (.iload_n 1, 1) := by decide +kernel
theorem dX4_order_79 : decode cX4_order 79 = .ok (.iaload, 1) := by decide +kernel
theorem dX4_order_80 : decode cX4_order 80 = .ok (.if_icmp .ge 122, 3) := by decide +kernel
theorem dX4_order_83 : decode cX4_order 83 = .ok (.aload_n 0, 1) := by decide +kernel
theorem dX4_order_84 : decode cX4_order 84 = .ok (.iload_n 1, 1) := by decide +kernel
theorem dX4_order_85 : decode cX4_order 85 = .ok (.aload_n 0, 1) := by decide +kernel
theorem dX4_order_86 : decode cX4_order 86 = .ok (.getfield 22, 3) := by decide +kernel
theorem dX4_order_89 : decode cX4_order 89 = .ok (.iconst 4, 1) := by decide +kernel
theorem dX4_order_90 : decode cX4_order 90 = .ok (.iload_n 1, 1) := by decide +kernel
theorem dX4_order_91 : decode cX4_order 91 = .ok (.imul, 1) := by decide +kernel
theorem dX4_order_92 : decode cX4_order 92 = .ok (.iload_n 2, 1) := by decide +kernel
theorem dX4_order_93 : decode cX4_order 93 = .ok (.iadd, 1) := by decide +kernel
theorem dX4_order_94 : decode cX4_order 94 = .ok (.iaload, 1) := by decide +kernel
theorem dX4_order_95 : decode cX4_order 95 = .ok (.invokevirtual 145, 3) := by decide +kernel
theorem dX4_order_98 : decode cX4_order 98 = .ok (.aload_n 0, 1) := by decide +kernel
theorem dX4_order_99 : decode cX4_order 99 = .ok (.getfield 135, 3) := by decide +kernel
theorem dX4_order_102 : decode cX4_order 102 = .ok (.ifCond .le 94, 3) := by decide +kernel
theorem dX4_order_105 : decode cX4_order 105 = .ok (.bipush 40, 2) := by decide +kernel
theorem dX4_order_107 : decode cX4_order 107 = .ok (.iload_n 1, 1) := by decide +kernel
theorem dX4_order_108 : decode cX4_order 108 = .ok (.imul, 1) := by decide +kernel
theorem dX4_order_109 : decode cX4_order 109 = .ok (.aload_n 0, 1) := by decide +kernel
theorem dX4_order_110 : decode cX4_order 110 = .ok (.getfield 38, 3) := by decide +kernel
theorem dX4_order_113 : decode cX4_order 113 = .ok (.aload_n 0, 1) := by decide +kernel
theorem dX4_order_114 : decode cX4_order 114 = .ok (.getfield 135, 3) := by decide +kernel
theorem dX4_order_117 : decode cX4_order 117 = .ok (.iconst 1, 1) := by decide +kernel
theorem dX4_order_118 : decode cX4_order 118 = .ok (.isub, 1) := by decide +kernel
theorem dX4_order_119 : decode cX4_order 119 = .ok (.iaload, 1) := by decide +kernel
theorem dX4_order_120 : decode cX4_order 120 = .ok (.iadd, 1) := by decide +kernel
theorem dX4_order_121 : decode cX4_order 121 = .ok (.istore_n 3, 1) := by decide +kernel
theorem dX4_order_122 : decode cX4_order 122 = .ok (.aload_n 0, 1) := by decide +kernel
theorem dX4_order_123 : decode cX4_order 123 = .ok (.getfield 41, 3) := by decide +kernel
theorem dX4_order_126 : decode cX4_order 126 = .ok (.aload_n 0, 1) := by decide +kernel
theorem dX4_order_127 : decode cX4_order 127 = .ok (.getfield 135, 3) := by decide +kernel
theorem dX4_order_130 : decode cX4_order 130 = .ok (.iconst 1, 1) := by decide +kernel
theorem dX4_order_131 : decode cX4_order 131 = .ok (.isub, 1) := by decide +kernel
theorem dX4_order_132 : decode cX4_order 132 = .ok (.iaload, 1) := by decide +kernel
theorem dX4_order_133 : decode cX4_order 133 = .ok (.istore 4, 2) := by decide +kernel
theorem dX4_order_135 : decode cX4_order 135 = .ok (.iload 4, 2) := by decide +kernel
theorem dX4_order_137 : decode cX4_order 137 = .ok (.aload_n 0, 1) := by decide +kernel
theorem dX4_order_138 : decode cX4_order 138 = .ok (.getfield 16, 3) := by decide +kernel
theorem dX4_order_141 : decode cX4_order 141 = .ok (.iload_n 3, 1) := by decide +kernel
theorem dX4_order_142 : decode cX4_order 142 = .ok (.iaload, 1) := by decide +kernel
theorem dX4_order_143 : decode cX4_order 143 = .ok (.invokestatic 120, 3) := by decide +kernel
theorem dX4_order_146 : decode cX4_order 146 = .ok (.if_icmp .ne 16, 3) := by decide +kernel
theorem dX4_order_149 : decode cX4_order 149 = .ok (.aload_n 0, 1) := by decide +kernel
theorem dX4_order_150 : decode cX4_order 150 = .ok (.dup, 1) := by decide +kernel
theorem dX4_order_151 : decode cX4_order 151 = .ok (.getfield 135, 3) := by decide +kernel
theorem dX4_order_154 : decode cX4_order 154 = .ok (.iconst 1, 1) := by decide +kernel
theorem dX4_order_155 : decode cX4_order 155 = .ok (.isub, 1) := by decide +kernel
theorem dX4_order_156 : decode cX4_order 156 = .ok (.putfield 135, 3) := by decide +kernel
theorem dX4_order_159 : decode cX4_order 159 = .ok (.goto 34, 3) := by decide +kernel
theorem dX4_order_162 : decode cX4_order 162 = .ok (.aload_n 0, 1) := by decide +kernel
theorem dX4_order_163 : decode cX4_order 163 = .ok (.getfield 41, 3) := by decide +kernel
theorem dX4_order_166 : decode cX4_order 166 = .ok (.aload_n 0, 1) := by decide +kernel
theorem dX4_order_167 : decode cX4_order 167 = .ok (.getfield 135, 3) := by decide +kernel
theorem dX4_order_170 : decode cX4_order 170 = .ok (.iconst 1, 1) := by decide +kernel
theorem dX4_order_171 : decode cX4_order 171 = .ok (.isub, 1) := by decide +kernel
theorem dX4_order_172 : decode cX4_order 172 = .ok (.dup2, 1) := by decide +kernel
theorem dX4_order_173 : decode cX4_order 173 = .ok (.iaload, 1) := by decide +kernel
theorem dX4_order_174 : decode cX4_order 174 = .ok (.iconst 1, 1) := by decide +kernel
theorem dX4_order_175 : decode cX4_order 175 = .ok (.iadd, 1) := by decide +kernel
theorem dX4_order_176 : decode cX4_order 176 = .ok (.iastore, 1) := by decide +kernel
theorem dX4_order_177 : decode cX4_order 177 = .ok (.aload_n 0, 1) := by decide +kernel
theorem dX4_order_178 : decode cX4_order 178 = .ok (.iload_n 1, 1) := by decide +kernel
theorem dX4_order_179 : decode cX4_order 179 = .ok (.aload_n 0, 1) := by decide +kernel
theorem dX4_order_180 : decode cX4_order 180 = .ok (.getfield 19, 3) := by decide +kernel
theorem dX4_order_183 : decode cX4_order 183 = .ok (.iconst 3, 1) := by decide +kernel
theorem dX4_order_184 : decode cX4_order 184 = .ok (.iload_n 3, 1) := by decide +kernel
theorem dX4_order_185 : decode cX4_order 185 = .ok (.imul, 1) := by decide +kernel
theorem dX4_order_186 : decode cX4_order 186 = .ok (.iload 4, 2) := by decide +kernel
theorem dX4_order_188 : decode cX4_order 188 = .ok (.iadd, 1) := by decide +kernel
theorem dX4_order_189 : decode cX4_order 189 = .ok (.iaload, 1) := by decide +kernel
theorem dX4_order_190 : decode cX4_order 190 = .ok (.invokevirtual 145, 3) := by decide +kernel
theorem dX4_order_193 : decode cX4_order 193 = .ok (.goto (-95), 3) := by decide +kernel
theorem dX4_order_196 : decode cX4_order 196 = .ok (.iinc 2 1, 3) := by decide +kernel
theorem dX4_order_199 : decode cX4_order 199 = .ok (.goto (-126), 3) := by decide +kernel
theorem dX4_order_202 : decode cX4_order 202 = .ok (.aload_n 0, 1) := by decide +kernel
theorem dX4_order_203 : decode cX4_order 203 = .ok (.getfield 138, 3) := by decide +kernel
theorem dX4_order_206 : decode cX4_order 206 = .ok (.istore_n 2, 1) := by decide +kernel
theorem dX4_order_207 : decode cX4_order 207 = .ok (.iconst 0, 1) := by decide +kernel
theorem dX4_order_208 : decode cX4_order 208 = .ok (.istore_n 3, 1) := by decide +kernel
theorem dX4_order_209 : decode cX4_order 209 = .ok (.iload_n 3, 1) := by decide +kernel
theorem dX4_order_210 : decode cX4_order 210 = .ok (.bipush 8, 2) := by decide +kernel
theorem dX4_order_212 : decode cX4_order 212 = .ok (.if_icmp .ge 48, 3) := by decide +kernel
theorem dX4_order_215 : decode cX4_order 215 = .ok (.aload_n 0, 1) := by decide +kernel
theorem dX4_order_216 : decode cX4_order 216 = .ok (.getfield 32, 3) := by decide +kernel
theorem dX4_order_219 : decode cX4_order 219 = .ok (.iload_n 3, 1) := by decide +kernel
theorem dX4_order_220 : decode cX4_order 220 = .ok (.iaload, 1) := by decide +kernel
theorem dX4_order_221 : decode cX4_order 221 = .ok (.ifCond .ge 33, 3) := by decide +kernel
theorem dX4_order_224 : decode cX4_order 224 = .ok (.aload_n 0, 1) := by decide +kernel
theorem dX4_order_225 : decode cX4_order 225 = .ok (.getfield 32, 3) := by decide +kernel
theorem dX4_order_228 : decode cX4_order 228 = .ok (.iload_n 3, 1) := by decide +kernel
theorem dX4_order_229 : decode cX4_order 229 = .ok (.aload_n 0, 1) := by decide +kernel
theorem dX4_order_230 : decode cX4_order 230 = .ok (.getfield 138, 3) := by decide +kernel
theorem dX4_order_233 : decode cX4_order 233 = .ok (.iastore, 1) := by decide +kernel
theorem dX4_order_234 : decode cX4_order 234 = .ok (.aload_n 0, 1) := by decide +kernel
theorem dX4_order_235 : decode cX4_order 235 = .ok (.getfield 29, 3) := by decide +kernel
theorem dX4_order_238 : decode cX4_order 238 = .ok (.aload_n 0, 1) := by decide +kernel
theorem dX4_order_239 : decode cX4_order 239 = .ok (.getfield 138, 3) := by decide +kernel
theorem dX4_order_242 : decode cX4_order 242 = .ok (.iload_n 3, 1) := by decide +kernel
theorem dX4_order_243 : decode cX4_order 243 = .ok (.iastore, 1) := by decide +kernel
theorem dX4_order_244 : decode cX4_order 244 = .ok (.aload_n 0, 1) := by decide +kernel
theorem dX4_order_245 : decode cX4_order 245 = .ok (.dup, 1) := by decide +kernel
theorem dX4_order_246 : decode cX4_order 246 = .ok (.getfield 138, 3) := by decide +kernel
theorem dX4_order_249 : decode cX4_order 249 = .ok (.iconst 1, 1) := by decide +kernel
theorem dX4_order_250 : decode cX4_order 250 = .ok (.iadd, 1) := by decide +kernel
theorem dX4_order_251 : decode cX4_order 251 = .ok (.putfield 138, 3) := by decide +kernel
theorem dX4_order_254 : decode cX4_order 254 = .ok (.iinc 3 1, 3) := by decide +kernel
theorem dX4_order_257 : decode cX4_order 257 = .ok (.goto (-48), 3) := by decide +kernel
theorem dX4_order_260 : decode cX4_order 260 = .ok (.iload_n 2, 1) := by decide +kernel
theorem dX4_order_261 : decode cX4_order 261 = .ok (.ireturn, 1) := by decide +kernel
theorem dX4_move_0 : decode cX4_move 0 = .ok (.iload_n 1, 1) := by decide +kernel
theorem dX4_move_1 : decode cX4_move 1 = .ok (.iconst 0, 1) := by decide +kernel
theorem dX4_move_2 : decode cX4_move 2 = .ok (.bipush 7, 2) := by decide +kernel
theorem dX4_move_4 : decode cX4_move 4 = .ok (.invokestatic 112, 3) := by decide +kernel
theorem dX4_move_7 : decode cX4_move 7 = .ok (.ifCond .eq 13, 3) := by decide +kernel
theorem dX4_move_10 : decode cX4_move 10 = .ok (.iload_n 2, 1) := by decide +kernel
theorem dX4_move_11 : decode cX4_move 11 = .ok (.iconst 0, 1) := by decide +kernel
theorem dX4_move_12 : decode cX4_move 12 = .ok (.bipush 7, 2) := by decide +kernel
theorem dX4_move_14 : decode cX4_move 14 = .ok (.invokestatic 112, 3) := by decide +kernel
theorem dX4_move_17 : decode cX4_move 17 = .ok (.ifCond .ne 6, 3) := by decide +kernel
theorem dX4_move_20 : decode cX4_move 20 = .ok (.bipush (-2), 2) := by decide +kernel
theorem dX4_move_22 : decode cX4_move 22 = .ok (.ireturn, 1) := by decide +kernel
theorem dX4_move_23 : decode cX4_move 23 = .ok (.aload_n 0, 1) := by decide +kernel
theorem dX4_move_24 : decode cX4_move 24 = .ok (.invokevirtual 141, 3) := by decide +kernel
theorem dX4_move_27 : decode cX4_move 27 = .ok (.ifCond .ne 6, 3) := by decide +kernel
theorem dX4_move_30 : decode cX4_move 30 = .ok (.bipush (-3), 2) := by decide +kernel
theorem dX4_move_32 : decode cX4_move 32 = .ok (.ireturn, 1) := by decide +kernel
theorem dX4_move_33 : decode cX4_move 33 = .ok (.aload_n 0, 1) := by decide +kernel
theorem dX4_move_34 : decode cX4_move 34 = .ok (.getfield 32, 3) := by decide +kernel
theorem dX4_move_37 : decode cX4_move 37 = .ok (.iload_n 1, 1) := by decide +kernel
theorem dX4_move_38 : decode cX4_move 38 = .ok (.iaload, 1) := by decide +kernel
theorem dX4_move_39 : decode cX4_move 39 = .ok (.istore_n 3, 1) := by decide +kernel
theorem dX4_move_40 : decode cX4_move 40 = .ok (.iload_n 2, 1) := by decide +kernel
theorem dX4_move_41 : decode cX4_move 41 = .ok (.iload_n 3, 1) := by decide +kernel
theorem dX4_move_42 : decode cX4_move 42 = .ok (.if_icmp .ge 7, 3) := by decide +kernel
theorem dX4_move_45 : decode cX4_move 45 = .ok (.iconst (-1), 1) := by decide +kernel
theorem dX4_move_46 : decode cX4_move 46 = .ok (.goto 4, 3) := by decide +kernel
theorem dX4_move_49 : decode cX4_move 49 = .ok (.iconst 1, 1) := by decide +kernel
theorem dX4_move_50 : decode cX4_move 50 = .ok (.istore 4, 2) := by decide +kernel
theorem dX4_move_52 : decode cX4_move 52 = .ok (.iload_n 3, 1) := by decide +kernel
theorem dX4_move_53 : decode cX4_move 53 = .ok (.istore 5, 2) := by decide +kernel
theorem dX4_move_55 : decode cX4_move 55 = .ok (.iload 5, 2) := by decide +kernel
theorem dX4_move_57 : decode cX4_move 57 = .ok (.iload_n 2, 1) := by decide +kernel
theorem dX4_move_58 : decode cX4_move 58 = .ok (.if_icmp .eq 30, 3) := by decide +kernel
theorem dX4_move_61 : decode cX4_move 61 = .ok (.aload_n 0, 1) := by decide +kernel
theorem dX4_move_62 : decode cX4_move 62 = .ok (.getfield 29, 3) := by decide +kernel
theorem dX4_move_65 : decode cX4_move 65 = .ok (.iload 5, 2) := by decide +kernel
theorem dX4_move_67 : decode cX4_move 67 = .ok (.aload_n 0, 1) := by decide +kernel
theorem dX4_move_68 : decode cX4_move 68 = .ok (.getfield 29, 3) := by decide +kernel
theorem dX4_move_71 : decode cX4_move 71 = .ok (.iload 5, 2) := by decide +kernel
theorem dX4_move_73 : decode cX4_move 73 = .ok (.iload 4, 2) := by decide +kernel
theorem dX4_move_75 : decode cX4_move 75 = .ok (.iadd, 1) := by decide +kernel
theorem dX4_move_76 : decode cX4_move 76 = .ok (.iaload, 1) := by decide +kernel
theorem dX4_move_77 : decode cX4_move 77 = .ok (.iastore, 1) := by decide +kernel
theorem dX4_move_78 : decode cX4_move 78 = .ok (.iload 5, 2) := by decide +kernel
theorem dX4_move_80 : decode cX4_move 80 = .ok (.iload 4, 2) := by decide +kernel
theorem dX4_move_82 : decode cX4_move 82 = .ok (.iadd, 1) := by decide +kernel
theorem dX4_move_83 : decode cX4_move 83 = .ok (.istore 5, 2) := by decide +kernel
theorem dX4_move_85 : decode cX4_move 85 = .ok (.goto (-30), 3) := by decide +kernel
theorem dX4_move_88 : decode cX4_move 88 = .ok (.aload_n 0, 1) := by decide +kernel
theorem dX4_move_89 : decode cX4_move 89 = .ok (.getfield 29, 3) := by decide +kernel
theorem dX4_move_92 : decode cX4_move 92 = .ok (.iload_n 2, 1) := by decide +kernel
theorem dX4_move_93 : decode cX4_move 93 = .ok (.iload_n 1, 1) := by decide +kernel
theorem dX4_move_94 : decode cX4_move 94 = .ok (.iastore, 1) := by decide +kernel
theorem dX4_move_95 : decode cX4_move 95 = .ok (.iconst 0, 1) := by decide +kernel
theorem dX4_move_96 : decode cX4_move 96 = .ok (.istore 5, 2) := by decide +kernel
theorem dX4_move_98 : decode cX4_move 98 = .ok (.iload 5, 2) := by decide +kernel
theorem dX4_move_100 : decode cX4_move 100 = .ok (.bipush 8, 2) := by decide +kernel
theorem dX4_move_102 : decode cX4_move 102 = .ok (.if_icmp .ge 23, 3) := by decide +kernel
theorem dX4_move_105 : decode cX4_move 105 = .ok (.aload_n 0, 1) := by decide +kernel
theorem dX4_move_106 : decode cX4_move 106 = .ok (.getfield 32, 3) := by decide +kernel
theorem dX4_move_109 : decode cX4_move 109 = .ok (.aload_n 0, 1) := by decide +kernel
theorem dX4_move_110 : decode cX4_move 110 = .ok (.getfield 29, 3) := by decide +kernel
theorem dX4_move_113 : decode cX4_move 113 = .ok (.iload 5, 2) := by decide +kernel
theorem dX4_move_115 : decode cX4_move 115 = .ok (.iaload, 1) := by decide +kernel
theorem dX4_move_116 : decode cX4_move 116 = .ok (.iload 5, 2) := by decide +kernel
theorem dX4_move_118 : decode cX4_move 118 = .ok (.iastore, 1) := by decide +kernel
theorem dX4_move_119 : decode cX4_move 119 = .ok (.iinc 5 1, 3) := by decide +kernel
theorem dX4_move_122 : decode cX4_move 122 = .ok (.goto (-24), 3) := by decide +kernel
theorem dX4_move_125 : decode cX4_move 125 = .ok (.iload_n 3, 1) := by decide +kernel
theorem dX4_move_126 : decode cX4_move 126 = .ok (.ireturn, 1) := by decide +kernel
theorem dX4_at_0 : decode cX4_at 0 = .ok (.iload_n 1, 1) := by decide +kernel
theorem dX4_at_1 : decode cX4_at 1 = .ok (.iconst 0, 1) := by decide +kernel
theorem dX4_at_2 : decode cX4_at 2 = .ok (.bipush 7, 2) := by decide +kernel
theorem dX4_at_4 : decode cX4_at 4 = .ok (.invokestatic 112, 3) := by decide +kernel
theorem dX4_at_7 : decode cX4_at 7 = .ok (.ifCond .eq 12, 3) := by decide +kernel
theorem dX4_at_10 : decode cX4_at 10 = .ok (.aload_n 0, 1) := by decide +kernel
theorem dX4_at_11 : decode cX4_at 11 = .ok (.getfield 29, 3) := by decide +kernel
theorem dX4_at_14 : decode cX4_at 14 = .ok (.iload_n 1, 1) := by decide +kernel
theorem dX4_at_15 : decode cX4_at 15 = .ok (.iaload, 1) := by decide +kernel
theorem dX4_at_16 : decode cX4_at 16 = .ok (.goto 5, 3) := by decide +kernel
theorem dX4_at_19 : decode cX4_at 19 = .ok (.bipush (-2), 2) := by decide +kernel
theorem dX4_at_21 : decode cX4_at 21 = .ok (.ireturn, 1) := by decide +kernel
theorem dX4_room_0 : decode cX4_room 0 = .ok (.iload_n 1, 1) := by decide +kernel
theorem dX4_room_1 : decode cX4_room 1 = .ok (.iconst 0, 1) := by decide +kernel
theorem dX4_room_2 : decode cX4_room 2 = .ok (.sipush 250, 3) := by decide +kernel
theorem dX4_room_5 : decode cX4_room 5 = .ok (.invokestatic 112, 3) := by decide +kernel
theorem dX4_room_8 : decode cX4_room 8 = .ok (.ifCond .ne 6, 3) := by decide +kernel
theorem dX4_room_11 : decode cX4_room 11 = .ok (.bipush (-2), 2) := by decide +kernel
theorem dX4_room_13 : decode cX4_room 13 = .ok (.ireturn, 1) := by decide +kernel
theorem dX4_room_14 : decode cX4_room 14 = .ok (.aload_n 0, 1) := by decide +kernel
theorem dX4_room_15 : decode cX4_room 15 = .ok (.getfield 149, 3) := by decide +kernel
theorem dX4_room_18 : decode cX4_room 18 = .ok (.iload_n 1, 1) := by decide +kernel
theorem dX4_room_19 : decode cX4_room 19 = .ok (.if_icmp .le 6, 3) := by decide +kernel
theorem dX4_room_22 : decode cX4_room 22 = .ok (.bipush (-3), 2) := by decide +kernel
theorem dX4_room_24 : decode cX4_room 24 = .ok (.ireturn, 1) := by decide +kernel
theorem dX4_room_25 : decode cX4_room 25 = .ok (.aload_n 0, 1) := by decide +kernel
theorem dX4_room_26 : decode cX4_room 26 = .ok (.getfield 102, 3) := by decide +kernel
theorem dX4_room_29 : decode cX4_room 29 = .ok (.istore_n 2, 1) := by decide +kernel
theorem dX4_room_30 : decode cX4_room 30 = .ok (.aload_n 0, 1) := by decide +kernel
theorem dX4_room_31 : decode cX4_room 31 = .ok (.iload_n 1, 1) := by decide +kernel
theorem dX4_room_32 : decode cX4_room 32 = .ok (.putfield 102, 3) := by decide +kernel
theorem dX4_room_35 : decode cX4_room 35 = .ok (.iload_n 2, 1) := by decide +kernel
theorem dX4_room_36 : decode cX4_room 36 = .ok (.ireturn, 1) := by decide +kernel
theorem dX4_bit_0 : decode cX4_bit 0 = .ok (.aload_n 0, 1) := by decide +kernel
theorem dX4_bit_1 : decode cX4_bit 1 = .ok (.getfield 47, 3) := by decide +kernel
theorem dX4_bit_4 : decode cX4_bit 4 = .ok (.iconst 4, 1) := by decide +kernel
theorem dX4_bit_5 : decode cX4_bit 5 = .ok (.iload_n 1, 1) := by decide +kernel
theorem dX4_bit_6 : decode cX4_bit 6 = .ok (.imul, 1) := by decide +kernel
theorem dX4_bit_7 : decode cX4_bit 7 = .ok (.iload_n 2, 1) := by decide +kernel
theorem dX4_bit_8 : decode cX4_bit 8 = .ok (.bipush 6, 2) := by decide +kernel
theorem dX4_bit_10 : decode cX4_bit 10 = .ok (.ishr, 1) := by decide +kernel
theorem dX4_bit_11 : decode cX4_bit 11 = .ok (.iadd, 1) := by decide +kernel
theorem dX4_bit_12 : decode cX4_bit 12 = .ok (.laload, 1) := by decide +kernel
theorem dX4_bit_13 : decode cX4_bit 13 = .ok (.iload_n 2, 1) := by decide +kernel
theorem dX4_bit_14 : decode cX4_bit 14 = .ok (.bipush 63, 2) := by decide +kernel
theorem dX4_bit_16 : decode cX4_bit 16 = .ok (.iand, 1) := by decide +kernel
theorem dX4_bit_17 : decode cX4_bit 17 = .ok (.lshr, 1) := by decide +kernel
theorem dX4_bit_18 : decode cX4_bit 18 = .ok (.lconst 1, 1) := by decide +kernel
theorem dX4_bit_19 : decode cX4_bit 19 = .ok (.land, 1) := by decide +kernel
theorem dX4_bit_20 : decode cX4_bit 20 = .ok (.lconst 1, 1) := by decide +kernel
theorem dX4_bit_21 : decode cX4_bit 21 = .ok (.lcmp, 1) := by decide +kernel
theorem dX4_bit_22 : decode cX4_bit 22 = .ok (.ifCond .ne 7, 3) := by decide +kernel
theorem dX4_bit_25 : decode cX4_bit 25 = .ok (.iconst 1, 1) := by decide +kernel
theorem dX4_bit_26 : decode cX4_bit 26 = .ok (.goto 4, 3) := by decide +kernel
theorem dX4_bit_29 : decode cX4_bit 29 = .ok (.iconst 0, 1) := by decide +kernel
theorem dX4_bit_30 : decode cX4_bit 30 = .ok (.ireturn, 1) := by decide +kernel
theorem dX4_lays_0 : decode cX4_lays 0 = .ok (.iload_n 2, 1) := by decide +kernel
theorem dX4_lays_1 : decode cX4_lays 1 = .ok (.iconst 1, 1) := by decide +kernel
theorem dX4_lays_2 : decode cX4_lays 2 = .ok (.if_icmp .le 118, 3) := by decide +kernel
theorem dX4_lays_5 : decode cX4_lays 5 = .ok (.sipush 256, 3) := by decide +kernel
theorem dX4_lays_8 : decode cX4_lays 8 = .ok (.iload_n 2, 1) := by decide +kernel
theorem dX4_lays_9 : decode cX4_lays 9 = .ok (.ishr, 1) := by decide +kernel
theorem dX4_lays_10 : decode cX4_lays 10 = .ok (.istore 4, 2) := by decide +kernel
theorem dX4_lays_12 : decode cX4_lays 12 = .ok (.iload_n 3, 1) := by decide +kernel
theorem dX4_lays_13 : decode cX4_lays 13 = .ok (.iload 4, 2) := by decide +kernel
theorem dX4_lays_15 : decode cX4_lays 15 = .ok (.imul, 1) := by decide +kernel
theorem dX4_lays_16 : decode cX4_lays 16 = .ok (.istore 5, 2) := by decide +kernel
theorem dX4_lays_18 : decode cX4_lays 18 = .ok (.aload_n 0, 1) := by decide +kernel
theorem dX4_lays_19 : decode cX4_lays 19 = .ok (.getfield 47, 3) := by decide +kernel
theorem dX4_lays_22 : decode cX4_lays 22 = .ok (.iconst 4, 1) := by decide +kernel
theorem dX4_lays_23 : decode cX4_lays 23 = .ok (.iload_n 1, 1) := by decide +kernel
theorem dX4_lays_24 : decode cX4_lays 24 = .ok (.imul, 1) := by decide +kernel
theorem dX4_lays_25 : decode cX4_lays 25 = .ok (.iload 5, 2) := by decide +kernel
theorem dX4_lays_27 : decode cX4_lays 27 = .ok (.bipush 6, 2) := by decide +kernel
theorem dX4_lays_29 : decode cX4_lays 29 = .ok (.ishr, 1) := by decide +kernel
theorem dX4_lays_30 : decode cX4_lays 30 = .ok (.iadd, 1) := by decide +kernel
theorem dX4_lays_31 : decode cX4_lays 31 = .ok (.laload, 1) := by decide +kernel
theorem dX4_lays_32 : decode cX4_lays 32 = .ok (.iload 5, 2) := by decide +kernel
theorem dX4_lays_34 : decode cX4_lays 34 = .ok (.bipush 63, 2) := by decide +kernel
theorem dX4_lays_36 : decode cX4_lays 36 = .ok (.iand, 1) := by decide +kernel
theorem dX4_lays_37 : decode cX4_lays 37 = .ok (.lushr, 1) := by decide +kernel
theorem dX4_lays_38 : decode cX4_lays 38 = .ok (.lstore 6, 2) := by decide +kernel
theorem dX4_lays_40 : decode cX4_lays 40 = .ok (.lconst 1, 1) := by decide +kernel
theorem dX4_lays_41 : decode cX4_lays 41 = .ok (.iload 4, 2) := by decide +kernel
theorem dX4_lays_43 : decode cX4_lays 43 = .ok (.iconst 2, 1) := by decide +kernel
theorem dX4_lays_44 : decode cX4_lays 44 = .ok (.idiv, 1) := by decide +kernel
theorem dX4_lays_45 : decode cX4_lays 45 = .ok (.lshl, 1) := by decide +kernel
theorem dX4_lays_46 : decode cX4_lays 46 = .ok (.lconst 1, 1) := by decide +kernel
theorem dX4_lays_47 : decode cX4_lays 47 = .ok (.lsub, 1) := by decide +kernel
theorem dX4_lays_48 : decode cX4_lays 48 = .ok (.lstore 8, 2) := by decide +kernel
theorem dX4_lays_50 : decode cX4_lays 50 = .ok (.lload 6, 2) := by decide +kernel
theorem dX4_lays_52 : decode cX4_lays 52 = .ok (.lload 6, 2) := by decide +kernel
theorem dX4_lays_54 : decode cX4_lays 54 = .ok (.iload 4, 2) := by decide +kernel
theorem dX4_lays_56 : decode cX4_lays 56 = .ok (.iconst 2, 1) := by decide +kernel
theorem dX4_lays_57 : decode cX4_lays 57 = .ok (.idiv, 1) := by decide +kernel
theorem dX4_lays_58 : decode cX4_lays 58 = .ok (.lushr, 1) := by decide +kernel
theorem dX4_lays_59 : decode cX4_lays 59 = .ok (.lxor, 1) := by decide +kernel
theorem dX4_lays_60 : decode cX4_lays 60 = .ok (.lload 8, 2) := by decide +kernel
theorem dX4_lays_62 : decode cX4_lays 62 = .ok (.land, 1) := by decide +kernel
theorem dX4_lays_63 : decode cX4_lays 63 = .ok (.lconst 0, 1) := by decide +kernel
theorem dX4_lays_64 : decode cX4_lays 64 = .ok (.lcmp, 1) := by decide +kernel
theorem dX4_lays_65 : decode cX4_lays 65 = .ok (.ifCond .ne 5, 3) := by decide +kernel
theorem dX4_lays_68 : decode cX4_lays 68 = .ok (.iconst 0, 1) := by decide +kernel
theorem dX4_lays_69 : decode cX4_lays 69 = .ok (.ireturn, 1) := by decide +kernel
theorem dX4_lays_70 : decode cX4_lays 70 = .ok (.aload_n 0, 1) := by decide +kernel
theorem dX4_lays_71 : decode cX4_lays 71 = .ok (.getfield 75, 3) := by decide +kernel
theorem dX4_lays_74 : decode cX4_lays 74 = .ok (.iconst 0, 1) := by decide +kernel
theorem dX4_lays_75 : decode cX4_lays 75 = .ok (.iload 4, 2) := by decide +kernel
theorem dX4_lays_77 : decode cX4_lays 77 = .ok (.bipush 64, 2) := by decide +kernel
theorem dX4_lays_79 : decode cX4_lays 79 = .ok (.if_icmp .ne 8, 3) := by decide +kernel
theorem dX4_lays_82 : decode cX4_lays 82 = .ok (.lload 6, 2) := by decide +kernel
theorem dX4_lays_84 : decode cX4_lays 84 = .ok (.goto 12, 3) := by decide +kernel
theorem dX4_lays_87 : decode cX4_lays 87 = .ok (.lload 6, 2) := by decide +kernel
theorem dX4_lays_89 : decode cX4_lays 89 = .ok (.lconst 1, 1) := by decide +kernel
theorem dX4_lays_90 : decode cX4_lays 90 = .ok (.iload 4, 2) := by decide +kernel
theorem dX4_lays_92 : decode cX4_lays 92 = .ok (.lshl, 1) := by decide +kernel
theorem dX4_lays_93 : decode cX4_lays 93 = .ok (.lconst 1, 1) := by decide +kernel
theorem dX4_lays_94 : decode cX4_lays 94 = .ok (.lsub, 1) := by decide +kernel
theorem dX4_lays_95 : decode cX4_lays 95 = .ok (.land, 1) := by decide +kernel
theorem dX4_lays_96 : decode cX4_lays 96 = .ok (.lastore, 1) := by decide +kernel
theorem dX4_lays_97 : decode cX4_lays 97 = .ok (.aload_n 0, 1) := by decide +kernel
theorem dX4_lays_98 : decode cX4_lays 98 = .ok (.getfield 75, 3) := by decide +kernel
theorem dX4_lays_101 : decode cX4_lays 101 = .ok (.iconst 1, 1) := by decide +kernel
theorem dX4_lays_102 : decode cX4_lays 102 = .ok (.lconst 0, 1) := by decide +kernel
theorem dX4_lays_103 : decode cX4_lays 103 = .ok (.lastore, 1) := by decide +kernel
theorem dX4_lays_104 : decode cX4_lays 104 = .ok (.aload_n 0, 1) := by decide +kernel
theorem dX4_lays_105 : decode cX4_lays 105 = .ok (.getfield 75, 3) := by decide +kernel
theorem dX4_lays_108 : decode cX4_lays 108 = .ok (.iconst 2, 1) := by decide +kernel
theorem dX4_lays_109 : decode cX4_lays 109 = .ok (.lconst 0, 1) := by decide +kernel
theorem dX4_lays_110 : decode cX4_lays 110 = .ok (.lastore, 1) := by decide +kernel
theorem dX4_lays_111 : decode cX4_lays 111 = .ok (.aload_n 0, 1) := by decide +kernel
theorem dX4_lays_112 : decode cX4_lays 112 = .ok (.getfield 75, 3) := by decide +kernel
theorem dX4_lays_115 : decode cX4_lays 115 = .ok (.iconst 3, 1) := by decide +kernel
theorem dX4_lays_116 : decode cX4_lays 116 = .ok (.lconst 0, 1) := by decide +kernel
theorem dX4_lays_117 : decode cX4_lays 117 = .ok (.lastore, 1) := by decide +kernel
theorem dX4_lays_118 : decode cX4_lays 118 = .ok (.iconst 1, 1) := by decide +kernel
theorem dX4_lays_119 : decode cX4_lays 119 = .ok (.ireturn, 1) := by decide +kernel
theorem dX4_lays_120 : decode cX4_lays 120 = .ok (.aload_n 0, 1) := by decide +kernel
theorem dX4_lays_121 : decode cX4_lays 121 = .ok (.getfield 75, 3) := by decide +kernel
theorem dX4_lays_124 : decode cX4_lays 124 = .ok (.iconst 2, 1) := by decide +kernel
theorem dX4_lays_125 : decode cX4_lays 125 = .ok (.lconst 0, 1) := by decide +kernel
theorem dX4_lays_126 : decode cX4_lays 126 = .ok (.lastore, 1) := by decide +kernel
theorem dX4_lays_127 : decode cX4_lays 127 = .ok (.aload_n 0, 1) := by decide +kernel
theorem dX4_lays_128 : decode cX4_lays 128 = .ok (.getfield 75, 3) := by decide +kernel
theorem dX4_lays_131 : decode cX4_lays 131 = .ok (.iconst 3, 1) := by decide +kernel
theorem dX4_lays_132 : decode cX4_lays 132 = .ok (.lconst 0, 1) := by decide +kernel
theorem dX4_lays_133 : decode cX4_lays 133 = .ok (.lastore, 1) := by decide +kernel
theorem dX4_lays_134 : decode cX4_lays 134 = .ok (.iload_n 2, 1) := by decide +kernel
theorem dX4_lays_135 : decode cX4_lays 135 = .ok (.ifCond .ne 74, 3) := by decide +kernel
theorem dX4_lays_138 : decode cX4_lays 138 = .ok (.iconst 0, 1) := by decide +kernel
theorem dX4_lays_139 : decode cX4_lays 139 = .ok (.istore 4, 2) := by decide +kernel
theorem dX4_lays_141 : decode cX4_lays 141 = .ok (.iload 4, 2) := by decide +kernel
theorem dX4_lays_143 : decode cX4_lays 143 = .ok (.iconst 4, 1) := by decide +kernel
theorem dX4_lays_144 : decode cX4_lays 144 = .ok (.if_icmp .ge 27, 3) := by decide +kernel
theorem dX4_lays_147 : decode cX4_lays 147 = .ok (.aload_n 0, 1) := by decide +kernel
theorem dX4_lays_148 : decode cX4_lays 148 = .ok (.getfield 75, 3) := by decide +kernel
theorem dX4_lays_151 : decode cX4_lays 151 = .ok (.iload 4, 2) := by decide +kernel
theorem dX4_lays_153 : decode cX4_lays 153 = .ok (.aload_n 0, 1) := by decide +kernel
theorem dX4_lays_154 : decode cX4_lays 154 = .ok (.getfield 47, 3) := by decide +kernel
theorem dX4_lays_157 : decode cX4_lays 157 = .ok (.iconst 4, 1) := by decide +kernel
theorem dX4_lays_158 : decode cX4_lays 158 = .ok (.iload_n 1, 1) := by decide +kernel
theorem dX4_lays_159 : decode cX4_lays 159 = .ok (.imul, 1) := by decide +kernel
theorem dX4_lays_160 : decode cX4_lays 160 = .ok (.iload 4, 2) := by decide +kernel
theorem dX4_lays_162 : decode cX4_lays 162 = .ok (.iadd, 1) := by decide +kernel
theorem dX4_lays_163 : decode cX4_lays 163 = .ok (.laload, 1) := by decide +kernel
theorem dX4_lays_164 : decode cX4_lays 164 = .ok (.lastore, 1) := by decide +kernel
theorem dX4_lays_165 : decode cX4_lays 165 = .ok (.iinc 4 1, 3) := by decide +kernel
theorem dX4_lays_168 : decode cX4_lays 168 = .ok (.goto (-27), 3) := by decide +kernel
theorem dX4_lays_171 : decode cX4_lays 171 = .ok (.aload_n 0, 1) := by decide +kernel
theorem dX4_lays_172 : decode cX4_lays 172 = .ok (.getfield 75, 3) := by decide +kernel
theorem dX4_lays_175 : decode cX4_lays 175 = .ok (.iconst 0, 1) := by decide +kernel
theorem dX4_lays_176 : decode cX4_lays 176 = .ok (.laload, 1) := by decide +kernel
theorem dX4_lays_177 : decode cX4_lays 177 = .ok (.aload_n 0, 1) := by decide +kernel
theorem dX4_lays_178 : decode cX4_lays 178 = .ok (.getfield 75, 3) := by decide +kernel
theorem dX4_lays_181 : decode cX4_lays 181 = .ok (.iconst 2, 1) := by decide +kernel
theorem dX4_lays_182 : decode cX4_lays 182 = .ok (.laload, 1) := by decide +kernel
theorem dX4_lays_183 : decode cX4_lays 183 = .ok (.lcmp, 1) := by decide +kernel
theorem dX4_lays_184 : decode cX4_lays 184 = .ok (.ifCond .ne 19, 3) := by decide +kernel
theorem dX4_lays_187 : decode cX4_lays 187 = .ok (.aload_n 0, 1) := by decide +kernel
theorem dX4_lays_188 : decode cX4_lays 188 = .ok (.getfield 75, 3) := by decide +kernel
theorem dX4_lays_191 : decode cX4_lays 191 = .ok (.iconst 1, 1) := by decide +kernel
theorem dX4_lays_192 : decode cX4_lays 192 = .ok (.laload, 1) := by decide +kernel
theorem dX4_lays_193 : decode cX4_lays 193 = .ok (.aload_n 0, 1) := by decide +kernel
theorem dX4_lays_194 : decode cX4_lays 194 = .ok (.getfield 75, 3) := by decide +kernel
theorem dX4_lays_197 : decode cX4_lays 197 = .ok (.iconst 3, 1) := by decide +kernel
theorem dX4_lays_198 : decode cX4_lays 198 = .ok (.laload, 1) := by decide +kernel
theorem dX4_lays_199 : decode cX4_lays 199 = .ok (.lcmp, 1) := by decide +kernel
theorem dX4_lays_200 : decode cX4_lays 200 = .ok (.ifCond .eq 7, 3) := by decide +kernel
theorem dX4_lays_203 : decode cX4_lays 203 = .ok (.iconst 1, 1) := by decide +kernel
theorem dX4_lays_204 : decode cX4_lays 204 = .ok (.goto 4, 3) := by decide +kernel
theorem dX4_lays_207 : decode cX4_lays 207 = .ok (.iconst 0, 1) := by decide +kernel
theorem dX4_lays_208 : decode cX4_lays 208 = .ok (.ireturn, 1) := by decide +kernel
theorem dX4_lays_209 : decode cX4_lays 209 = .ok (.aload_n 0, 1) := by decide +kernel
theorem dX4_lays_210 : decode cX4_lays 210 = .ok (.getfield 75, 3) := by decide +kernel
theorem dX4_lays_213 : decode cX4_lays 213 = .ok (.iconst 0, 1) := by decide +kernel
theorem dX4_lays_214 : decode cX4_lays 214 = .ok (.aload_n 0, 1) := by decide +kernel
theorem dX4_lays_215 : decode cX4_lays 215 = .ok (.getfield 47, 3) := by decide +kernel
theorem dX4_lays_218 : decode cX4_lays 218 = .ok (.iconst 4, 1) := by decide +kernel
theorem dX4_lays_219 : decode cX4_lays 219 = .ok (.iload_n 1, 1) := by decide +kernel
theorem dX4_lays_220 : decode cX4_lays 220 = .ok (.imul, 1) := by decide +kernel
theorem dX4_lays_221 : decode cX4_lays 221 = .ok (.iconst 2, 1) := by decide +kernel
theorem dX4_lays_222 : decode cX4_lays 222 = .ok (.iload_n 3, 1) := by decide +kernel
theorem dX4_lays_223 : decode cX4_lays 223 = .ok (.imul, 1) := by decide +kernel
theorem dX4_lays_224 : decode cX4_lays 224 = .ok (.iadd, 1) := by decide +kernel
theorem dX4_lays_225 : decode cX4_lays 225 = .ok (.laload, 1) := by decide +kernel
theorem dX4_lays_226 : decode cX4_lays 226 = .ok (.lastore, 1) := by decide +kernel
theorem dX4_lays_227 : decode cX4_lays 227 = .ok (.aload_n 0, 1) := by decide +kernel
theorem dX4_lays_228 : decode cX4_lays 228 = .ok (.getfield 75, 3) := by decide +kernel
theorem dX4_lays_231 : decode cX4_lays 231 = .ok (.iconst 1, 1) := by decide +kernel
theorem dX4_lays_232 : decode cX4_lays 232 = .ok (.aload_n 0, 1) := by decide +kernel
theorem dX4_lays_233 : decode cX4_lays 233 = .ok (.getfield 47, 3) := by decide +kernel
theorem dX4_lays_236 : decode cX4_lays 236 = .ok (.iconst 4, 1) := by decide +kernel
theorem dX4_lays_237 : decode cX4_lays 237 = .ok (.iload_n 1, 1) := by decide +kernel
theorem dX4_lays_238 : decode cX4_lays 238 = .ok (.imul, 1) := by decide +kernel
theorem dX4_lays_239 : decode cX4_lays 239 = .ok (.iconst 2, 1) := by decide +kernel
theorem dX4_lays_240 : decode cX4_lays 240 = .ok (.iload_n 3, 1) := by decide +kernel
theorem dX4_lays_241 : decode cX4_lays 241 = .ok (.imul, 1) := by decide +kernel
theorem dX4_lays_242 : decode cX4_lays 242 = .ok (.iadd, 1) := by decide +kernel
theorem dX4_lays_243 : decode cX4_lays 243 = .ok (.iconst 1, 1) := by decide +kernel
theorem dX4_lays_244 : decode cX4_lays 244 = .ok (.iadd, 1) := by decide +kernel
theorem dX4_lays_245 : decode cX4_lays 245 = .ok (.laload, 1) := by decide +kernel
theorem dX4_lays_246 : decode cX4_lays 246 = .ok (.lastore, 1) := by decide +kernel
theorem dX4_lays_247 : decode cX4_lays 247 = .ok (.aload_n 0, 1) := by decide +kernel
theorem dX4_lays_248 : decode cX4_lays 248 = .ok (.getfield 75, 3) := by decide +kernel
theorem dX4_lays_251 : decode cX4_lays 251 = .ok (.iconst 0, 1) := by decide +kernel
theorem dX4_lays_252 : decode cX4_lays 252 = .ok (.laload, 1) := by decide +kernel
theorem dX4_lays_253 : decode cX4_lays 253 = .ok (.aload_n 0, 1) := by decide +kernel
theorem dX4_lays_254 : decode cX4_lays 254 = .ok (.getfield 75, 3) := by decide +kernel
theorem dX4_lays_257 : decode cX4_lays 257 = .ok (.iconst 1, 1) := by decide +kernel
theorem dX4_lays_258 : decode cX4_lays 258 = .ok (.laload, 1) := by decide +kernel
theorem dX4_lays_259 : decode cX4_lays 259 = .ok (.lcmp, 1) := by decide +kernel
theorem dX4_lays_260 : decode cX4_lays 260 = .ok (.ifCond .eq 7, 3) := by decide +kernel
theorem dX4_lays_263 : decode cX4_lays 263 = .ok (.iconst 1, 1) := by decide +kernel
theorem dX4_lays_264 : decode cX4_lays 264 = .ok (.goto 4, 3) := by decide +kernel
theorem dX4_lays_267 : decode cX4_lays 267 = .ok (.iconst 0, 1) := by decide +kernel
theorem dX4_lays_268 : decode cX4_lays 268 = .ok (.ireturn, 1) := by decide +kernel
theorem dX4_bucket_0 : decode cX4_bucket 0 = .ok (.iload_n 1, 1) := by decide +kernel
theorem dX4_bucket_1 : decode cX4_bucket 1 = .ok (.i2l, 1) := by decide +kernel
theorem dX4_bucket_2 : decode cX4_bucket 2 = .ok (.lstore_n 2, 1) := by decide +kernel
theorem dX4_bucket_3 : decode cX4_bucket 3 = .ok (.iconst 0, 1) := by decide +kernel
theorem dX4_bucket_4 : decode cX4_bucket 4 = .ok (.istore 4, 2) := by decide +kernel
theorem dX4_bucket_6 : decode cX4_bucket 6 = .ok (.iload 4, 2) := by decide +kernel
theorem dX4_bucket_8 : decode cX4_bucket 8 = .ok (.iconst 4, 1) := by decide +kernel
theorem dX4_bucket_9 : decode cX4_bucket 9 = .ok (.if_icmp .ge 34, 3) := by decide +kernel
theorem dX4_bucket_12 : decode cX4_bucket 12 = .ok (.lload_n 2, 1) := by decide +kernel
theorem dX4_bucket_13 : decode cX4_bucket 13 = .ok (.ldc2_w 152, 3) := by decide +kernel
theorem dX4_bucket_16 : decode cX4_bucket 16 = .ok (.lmul, 1) := by decide +kernel
theorem dX4_bucket_17 : decode cX4_bucket 17 = .ok (.aload_n 0, 1) := by decide +kernel
theorem dX4_bucket_18 : decode cX4_bucket 18 = .ok (.getfield 75, 3) := by decide +kernel
theorem dX4_bucket_21 : decode cX4_bucket 21 = .ok (.iload 4, 2) := by decide +kernel
theorem dX4_bucket_23 : decode cX4_bucket 23 = .ok (.laload, 1) := by decide +kernel
theorem dX4_bucket_24 : decode cX4_bucket 24 = .ok (.aload_n 0, 1) := by decide +kernel
theorem dX4_bucket_25 : decode cX4_bucket 25 = .ok (.getfield 75, 3) := by decide +kernel
theorem dX4_bucket_28 : decode cX4_bucket 28 = .ok (.iload 4, 2) := by decide +kernel
theorem dX4_bucket_30 : decode cX4_bucket 30 = .ok (.laload, 1) := by decide +kernel
theorem dX4_bucket_31 : decode cX4_bucket 31 = .ok (.bipush 29, 2) := by decide +kernel
theorem dX4_bucket_33 : decode cX4_bucket 33 = .ok (.lushr, 1) := by decide +kernel
theorem dX4_bucket_34 : decode cX4_bucket 34 = .ok (.lxor, 1) := by decide +kernel
theorem dX4_bucket_35 : decode cX4_bucket 35 = .ok (.ladd, 1) := by decide +kernel
theorem dX4_bucket_36 : decode cX4_bucket 36 = .ok (.lstore_n 2, 1) := by decide +kernel
theorem dX4_bucket_37 : decode cX4_bucket 37 = .ok (.iinc 4 1, 3) := by decide +kernel
theorem dX4_bucket_40 : decode cX4_bucket 40 = .ok (.goto (-34), 3) := by decide +kernel
theorem dX4_bucket_43 : decode cX4_bucket 43 = .ok (.lload_n 2, 1) := by decide +kernel
theorem dX4_bucket_44 : decode cX4_bucket 44 = .ok (.bipush 7, 2) := by decide +kernel
theorem dX4_bucket_46 : decode cX4_bucket 46 = .ok (.lushr, 1) := by decide +kernel
theorem dX4_bucket_47 : decode cX4_bucket 47 = .ok (.lload_n 2, 1) := by decide +kernel
theorem dX4_bucket_48 : decode cX4_bucket 48 = .ok (.bipush 31, 2) := by decide +kernel
theorem dX4_bucket_50 : decode cX4_bucket 50 = .ok (.lushr, 1) := by decide +kernel
theorem dX4_bucket_51 : decode cX4_bucket 51 = .ok (.lxor, 1) := by decide +kernel
theorem dX4_bucket_52 : decode cX4_bucket 52 = .ok (.l2i, 1) := by decide +kernel
theorem dX4_bucket_53 : decode cX4_bucket 53 = .ok (.sipush 511, 3) := by decide +kernel
theorem dX4_bucket_56 : decode cX4_bucket 56 = .ok (.iand, 1) := by decide +kernel
theorem dX4_bucket_57 : decode cX4_bucket 57 = .ok (.ireturn, 1) := by decide +kernel
theorem dX4_nodeFor_0 : decode cX4_nodeFor 0 = .ok (.aload_n 0, 1) := by decide +kernel
theorem dX4_nodeFor_1 : decode cX4_nodeFor 1 = .ok (.iload_n 1, 1) := by decide +kernel
theorem dX4_nodeFor_2 : decode cX4_nodeFor 2 = .ok (.invokevirtual 154, 3) := by decide +kernel
theorem dX4_nodeFor_5 : decode cX4_nodeFor 5 = .ok (.istore_n 2, 1) := by decide +kernel
theorem dX4_nodeFor_6 : decode cX4_nodeFor 6 = .ok (.aload_n 0, 1) := by decide +kernel
theorem dX4_nodeFor_7 : decode cX4_nodeFor 7 = .ok (.getfield 69, 3) := by decide +kernel
theorem dX4_nodeFor_10 : decode cX4_nodeFor 10 = .ok (.iload_n 2, 1) := by decide +kernel
theorem dX4_nodeFor_11 : decode cX4_nodeFor 11 = .ok (.iaload, 1) := by decide +kernel
theorem dX4_nodeFor_12 : decode cX4_nodeFor 12 = .ok (.istore_n 3, 1) := by decide +kernel
theorem dX4_nodeFor_13 : decode cX4_nodeFor 13 = .ok (.iload_n 3, 1) := by decide +kernel
theorem dX4_nodeFor_14 : decode cX4_nodeFor 14 = .ok (.ifCond .lt 103, 3) := by decide +kernel
theorem dX4_nodeFor_17 : decode cX4_nodeFor 17 = .ok (.aload_n 0, 1) := by decide +kernel
theorem dX4_nodeFor_18 : decode cX4_nodeFor 18 = .ok (.getfield 57, 3) := by decide +kernel
theorem dX4_nodeFor_21 : decode cX4_nodeFor 21 = .ok (.iload_n 3, 1) := by decide +kernel
theorem dX4_nodeFor_22 : decode cX4_nodeFor 22 = .ok (.iaload, 1) := by decide +kernel
theorem dX4_nodeFor_23 : decode cX4_nodeFor 23 = .ok (.iload_n 1, 1) := by decide +kernel
theorem dX4_nodeFor_24 : decode cX4_nodeFor 24 = .ok (.if_icmp .ne 83, 3) := by decide +kernel
theorem dX4_nodeFor_27 : decode cX4_nodeFor 27 = .ok (.aload_n 0, 1) := by decide +kernel
theorem dX4_nodeFor_28 : decode cX4_nodeFor 28 = .ok (.getfield 60, 3) := by decide +kernel
theorem dX4_nodeFor_31 : decode cX4_nodeFor 31 = .ok (.iconst 4, 1) := by decide +kernel
theorem dX4_nodeFor_32 : decode cX4_nodeFor 32 = .ok (.iload_n 3, 1) := by decide +kernel
theorem dX4_nodeFor_33 : decode cX4_nodeFor 33 = .ok (.imul, 1) := by decide +kernel
theorem dX4_nodeFor_34 : decode cX4_nodeFor 34 = .ok (.laload, 1) := by decide +kernel
theorem dX4_nodeFor_35 : decode cX4_nodeFor 35 = .ok (.aload_n 0, 1) := by decide +kernel
theorem dX4_nodeFor_36 : decode cX4_nodeFor 36 = .ok (.getfield 75, 3) := by decide +kernel
theorem dX4_nodeFor_39 : decode cX4_nodeFor 39 = .ok (.iconst 0, 1) := by decide +kernel
theorem dX4_nodeFor_40 : decode cX4_nodeFor 40 = .ok (.laload, 1) := by decide +kernel
theorem dX4_nodeFor_41 : decode cX4_nodeFor 41 = .ok (.lcmp, 1) := by decide +kernel
theorem dX4_nodeFor_42 : decode cX4_nodeFor 42 = .ok (.ifCond .ne 65, 3) := by decide +kernel
theorem dX4_nodeFor_45 : decode cX4_nodeFor 45 = .ok (.aload_n 0, 1) := by decide +kernel
theorem dX4_nodeFor_46 : decode cX4_nodeFor 46 = .ok (.getfield 60, 3) := by decide +kernel
theorem dX4_nodeFor_49 : decode cX4_nodeFor 49 = .ok (.iconst 4, 1) := by decide +kernel
theorem dX4_nodeFor_50 : decode cX4_nodeFor 50 = .ok (.iload_n 3, 1) := by decide +kernel
theorem dX4_nodeFor_51 : decode cX4_nodeFor 51 = .ok (.imul, 1) := by decide +kernel
theorem dX4_nodeFor_52 : decode cX4_nodeFor 52 = .ok (.iconst 1, 1) := by decide +kernel
theorem dX4_nodeFor_53 : decode cX4_nodeFor 53 = .ok (.iadd, 1) := by decide +kernel
theorem dX4_nodeFor_54 : decode cX4_nodeFor 54 = .ok (.laload, 1) := by decide +kernel
theorem dX4_nodeFor_55 : decode cX4_nodeFor 55 = .ok (.aload_n 0, 1) := by decide +kernel
theorem dX4_nodeFor_56 : decode cX4_nodeFor 56 = .ok (.getfield 75, 3) := by decide +kernel
theorem dX4_nodeFor_59 : decode cX4_nodeFor 59 = .ok (.iconst 1, 1) := by decide +kernel
theorem dX4_nodeFor_60 : decode cX4_nodeFor 60 = .ok (.laload, 1) := by decide +kernel
theorem dX4_nodeFor_61 : decode cX4_nodeFor 61 = .ok (.lcmp, 1) := by decide +kernel
theorem dX4_nodeFor_62 : decode cX4_nodeFor 62 = .ok (.ifCond .ne 45, 3) := by decide +kernel
theorem dX4_nodeFor_65 : decode cX4_nodeFor 65 = .ok (.aload_n 0, 1) := by decide +kernel
theorem dX4_nodeFor_66 : decode cX4_nodeFor 66 = .ok (.getfield 60, 3) := by decide +kernel
theorem dX4_nodeFor_69 : decode cX4_nodeFor 69 = .ok (.iconst 4, 1) := by decide +kernel
theorem dX4_nodeFor_70 : decode cX4_nodeFor 70 = .ok (.iload_n 3, 1) := by decide +kernel
theorem dX4_nodeFor_71 : decode cX4_nodeFor 71 = .ok (.imul, 1) := by decide +kernel
theorem dX4_nodeFor_72 : decode cX4_nodeFor 72 = .ok (.iconst 2, 1) := by decide +kernel
theorem dX4_nodeFor_73 : decode cX4_nodeFor 73 = .ok (.iadd, 1) := by decide +kernel
theorem dX4_nodeFor_74 : decode cX4_nodeFor 74 = .ok (.laload, 1) := by decide +kernel
theorem dX4_nodeFor_75 : decode cX4_nodeFor 75 = .ok (.aload_n 0, 1) := by decide +kernel
theorem dX4_nodeFor_76 : decode cX4_nodeFor 76 = .ok (.getfield 75, 3) := by decide +kernel
theorem dX4_nodeFor_79 : decode cX4_nodeFor 79 = .ok (.iconst 2, 1) := by decide +kernel
theorem dX4_nodeFor_80 : decode cX4_nodeFor 80 = .ok (.laload, 1) := by decide +kernel
theorem dX4_nodeFor_81 : decode cX4_nodeFor 81 = .ok (.lcmp, 1) := by decide +kernel
theorem dX4_nodeFor_82 : decode cX4_nodeFor 82 = .ok (.ifCond .ne 25, 3) := by decide +kernel
theorem dX4_nodeFor_85 : decode cX4_nodeFor 85 = .ok (.aload_n 0, 1) := by decide +kernel
theorem dX4_nodeFor_86 : decode cX4_nodeFor 86 = .ok (.getfield 60, 3) := by decide +kernel
theorem dX4_nodeFor_89 : decode cX4_nodeFor 89 = .ok (.iconst 4, 1) := by decide +kernel
theorem dX4_nodeFor_90 : decode cX4_nodeFor 90 = .ok (.iload_n 3, 1) := by decide +kernel
theorem dX4_nodeFor_91 : decode cX4_nodeFor 91 = .ok (.imul, 1) := by decide +kernel
theorem dX4_nodeFor_92 : decode cX4_nodeFor 92 = .ok (.iconst 3, 1) := by decide +kernel
theorem dX4_nodeFor_93 : decode cX4_nodeFor 93 = .ok (.iadd, 1) := by decide +kernel
theorem dX4_nodeFor_94 : decode cX4_nodeFor 94 = .ok (.laload, 1) := by decide +kernel
theorem dX4_nodeFor_95 : decode cX4_nodeFor 95 = .ok (.aload_n 0, 1) := by decide +kernel
theorem dX4_nodeFor_96 : decode cX4_nodeFor 96 = .ok (.getfield 75, 3) := by decide +kernel
theorem dX4_nodeFor_99 : decode cX4_nodeFor 99 = .ok (.iconst 3, 1) := by decide +kernel
theorem dX4_nodeFor_100 : decode cX4_nodeFor 100 = .ok (.laload, 1) := by decide +kernel
theorem dX4_nodeFor_101 : decode cX4_nodeFor 101 = .ok (.lcmp, 1) := by decide +kernel
theorem dX4_nodeFor_102 : decode cX4_nodeFor 102 = .ok (.ifCond .ne 5, 3) := by decide +kernel
theorem dX4_nodeFor_105 : decode cX4_nodeFor 105 = .ok (.iload_n 3, 1) := by decide +kernel
theorem dX4_nodeFor_106 : decode cX4_nodeFor 106 = .ok (.ireturn, 1) := by decide +kernel
theorem dX4_nodeFor_107 : decode cX4_nodeFor 107 = .ok (.aload_n 0, 1) := by decide +kernel
theorem dX4_nodeFor_108 : decode cX4_nodeFor 108 = .ok (.getfield 66, 3) := by decide +kernel
theorem dX4_nodeFor_111 : decode cX4_nodeFor 111 = .ok (.iload_n 3, 1) := by decide +kernel
theorem dX4_nodeFor_112 : decode cX4_nodeFor 112 = .ok (.iaload, 1) := by decide +kernel
theorem dX4_nodeFor_113 : decode cX4_nodeFor 113 = .ok (.istore_n 3, 1) := by decide +kernel
theorem dX4_nodeFor_114 : decode cX4_nodeFor 114 = .ok (.goto (-101), 3) := by decide +kernel
theorem dX4_nodeFor_117 : decode cX4_nodeFor 117 = .ok (.aload_n 0, 1) := by decide +kernel
theorem dX4_nodeFor_118 : decode cX4_nodeFor 118 = .ok (.getfield 157, 3) := by decide +kernel
theorem dX4_nodeFor_121 : decode cX4_nodeFor 121 = .ok (.istore_n 3, 1) := by decide +kernel
theorem dX4_nodeFor_122 : decode cX4_nodeFor 122 = .ok (.aload_n 0, 1) := by decide +kernel
theorem dX4_nodeFor_123 : decode cX4_nodeFor 123 = .ok (.aload_n 0, 1) := by decide +kernel
theorem dX4_nodeFor_124 : decode cX4_nodeFor 124 = .ok (.getfield 66, 3) := by decide +kernel
theorem dX4_nodeFor_127 : decode cX4_nodeFor 127 = .ok (.iload_n 3, 1) := by decide +kernel
theorem dX4_nodeFor_128 : decode cX4_nodeFor 128 = .ok (.iaload, 1) := by decide +kernel
theorem dX4_nodeFor_129 : decode cX4_nodeFor 129 = .ok (.putfield 157, 3) := by decide +kernel
theorem dX4_nodeFor_132 : decode cX4_nodeFor 132 = .ok (.aload_n 0, 1) := by decide +kernel
theorem dX4_nodeFor_133 : decode cX4_nodeFor 133 = .ok (.getfield 57, 3) := by decide +kernel
theorem dX4_nodeFor_136 : decode cX4_nodeFor 136 = .ok (.iload_n 3, 1) := by decide +kernel
theorem dX4_nodeFor_137 : decode cX4_nodeFor 137 = .ok (.iload_n 1, 1) := by decide +kernel
theorem dX4_nodeFor_138 : decode cX4_nodeFor 138 = .ok (.iastore, 1) := by decide +kernel
theorem dX4_nodeFor_139 : decode cX4_nodeFor 139 = .ok (.iconst 0, 1) := by decide +kernel
theorem dX4_nodeFor_140 : decode cX4_nodeFor 140 = .ok (.istore 4, 2) := by decide +kernel
theorem dX4_nodeFor_142 : decode cX4_nodeFor 142 = .ok (.iload 4, 2) := by decide +kernel
theorem dX4_nodeFor_144 : decode cX4_nodeFor 144 = .ok (.iconst 4, 1) := by decide +kernel
theorem dX4_nodeFor_145 : decode cX4_nodeFor 145 = .ok (.if_icmp .ge 27, 3) := by decide +kernel
theorem dX4_nodeFor_148 : decode cX4_nodeFor 148 = .ok (.aload_n 0, 1) := by decide +kernel
theorem dX4_nodeFor_149 : decode cX4_nodeFor 149 = .ok (.getfield 60, 3) := by decide +kernel
theorem dX4_nodeFor_152 : decode cX4_nodeFor 152 = .ok (.iconst 4, 1) := by decide +kernel
theorem dX4_nodeFor_153 : decode cX4_nodeFor 153 = .ok (.iload_n 3, 1) := by decide +kernel
theorem dX4_nodeFor_154 : decode cX4_nodeFor 154 = .ok (.imul, 1) := by decide +kernel
theorem dX4_nodeFor_155 : decode cX4_nodeFor 155 = .ok (.iload 4, 2) := by decide +kernel
theorem dX4_nodeFor_157 : decode cX4_nodeFor 157 = .ok (.iadd, 1) := by decide +kernel
theorem dX4_nodeFor_158 : decode cX4_nodeFor 158 = .ok (.aload_n 0, 1) := by decide +kernel
theorem dX4_nodeFor_159 : decode cX4_nodeFor 159 = .ok (.getfield 75, 3) := by decide +kernel
theorem dX4_nodeFor_162 : decode cX4_nodeFor 162 = .ok (.iload 4, 2) := by decide +kernel
theorem dX4_nodeFor_164 : decode cX4_nodeFor 164 = .ok (.laload, 1) := by decide +kernel
theorem dX4_nodeFor_165 : decode cX4_nodeFor 165 = .ok (.lastore, 1) := by decide +kernel
theorem dX4_nodeFor_166 : decode cX4_nodeFor 166 = .ok (.iinc 4 1, 3) := by decide +kernel
theorem dX4_nodeFor_169 : decode cX4_nodeFor 169 = .ok (.goto (-27), 3) := by decide +kernel
theorem dX4_nodeFor_172 : decode cX4_nodeFor 172 = .ok (.aload_n 0, 1) := by decide +kernel
theorem dX4_nodeFor_173 : decode cX4_nodeFor 173 = .ok (.getfield 63, 3) := by decide +kernel
theorem dX4_nodeFor_176 : decode cX4_nodeFor 176 = .ok (.iload_n 3, 1) := by decide +kernel
theorem dX4_nodeFor_177 : decode cX4_nodeFor 177 = .ok (.iconst 0, 1) := by decide +kernel
theorem dX4_nodeFor_178 : decode cX4_nodeFor 178 = .ok (.iastore, 1) := by decide +kernel
theorem dX4_nodeFor_179 : decode cX4_nodeFor 179 = .ok (.aload_n 0, 1) := by decide +kernel
theorem dX4_nodeFor_180 : decode cX4_nodeFor 180 = .ok (.getfield 66, 3) := by decide +kernel
theorem dX4_nodeFor_183 : decode cX4_nodeFor 183 = .ok (.iload_n 3, 1) := by decide +kernel
theorem dX4_nodeFor_184 : decode cX4_nodeFor 184 = .ok (.aload_n 0, 1) := by decide +kernel
theorem dX4_nodeFor_185 : decode cX4_nodeFor 185 = .ok (.getfield 69, 3) := by decide +kernel
theorem dX4_nodeFor_188 : decode cX4_nodeFor 188 = .ok (.iload_n 2, 1) := by decide +kernel
theorem dX4_nodeFor_189 : decode cX4_nodeFor 189 = .ok (.iaload, 1) := by decide +kernel
theorem dX4_nodeFor_190 : decode cX4_nodeFor 190 = .ok (.iastore, 1) := by decide +kernel
theorem dX4_nodeFor_191 : decode cX4_nodeFor 191 = .ok (.aload_n 0, 1) := by decide +kernel
theorem dX4_nodeFor_192 : decode cX4_nodeFor 192 = .ok (.getfield 69, 3) := by decide +kernel
theorem dX4_nodeFor_195 : decode cX4_nodeFor 195 = .ok (.iload_n 2, 1) := by decide +kernel
theorem dX4_nodeFor_196 : decode cX4_nodeFor 196 = .ok (.iload_n 3, 1) := by decide +kernel
theorem dX4_nodeFor_197 : decode cX4_nodeFor 197 = .ok (.iastore, 1) := by decide +kernel
theorem dX4_nodeFor_198 : decode cX4_nodeFor 198 = .ok (.iload_n 3, 1) := by decide +kernel
theorem dX4_nodeFor_199 : decode cX4_nodeFor 199 = .ok (.ireturn, 1) := by decide +kernel
theorem dX4_unlink_0 : decode cX4_unlink 0 = .ok (.iconst 0, 1) := by decide +kernel
theorem dX4_unlink_1 : decode cX4_unlink 1 = .ok (.istore_n 2, 1) := by decide +kernel
theorem dX4_unlink_2 : decode cX4_unlink 2 = .ok (.iload_n 2, 1) := by decide +kernel
theorem dX4_unlink_3 : decode cX4_unlink 3 = .ok (.iconst 4, 1) := by decide +kernel
theorem dX4_unlink_4 : decode cX4_unlink 4 = .ok (.if_icmp .ge 25, 3) := by decide +kernel
theorem dX4_unlink_7 : decode cX4_unlink 7 = .ok (.aload_n 0, 1) := by decide +kernel
theorem dX4_unlink_8 : decode cX4_unlink 8 = .ok (.getfield 75, 3) := by decide +kernel
theorem dX4_unlink_11 : decode cX4_unlink 11 = .ok (.iload_n 2, 1) := by decide +kernel
theorem dX4_unlink_12 : decode cX4_unlink 12 = .ok (.aload_n 0, 1) := by decide +kernel
theorem dX4_unlink_13 : decode cX4_unlink 13 = .ok (.getfield 60, 3) := by decide +kernel
theorem dX4_unlink_16 : decode cX4_unlink 16 = .ok (.iconst 4, 1) := by decide +kernel
theorem dX4_unlink_17 : decode cX4_unlink 17 = .ok (.iload_n 1, 1) := by decide +kernel
theorem dX4_unlink_18 : decode cX4_unlink 18 = .ok (.imul, 1) := by decide +kernel
theorem dX4_unlink_19 : decode cX4_unlink 19 = .ok (.iload_n 2, 1) := by decide +kernel
theorem dX4_unlink_20 : decode cX4_unlink 20 = .ok (.iadd, 1) := by decide +kernel
theorem dX4_unlink_21 : decode cX4_unlink 21 = .ok (.laload, 1) := by decide +kernel
theorem dX4_unlink_22 : decode cX4_unlink 22 = .ok (.lastore, 1) := by decide +kernel
theorem dX4_unlink_23 : decode cX4_unlink 23 = .ok (.iinc 2 1, 3) := by decide +kernel
theorem dX4_unlink_26 : decode cX4_unlink 26 = .ok (.goto (-24), 3) := by decide +kernel
theorem dX4_unlink_29 : decode cX4_unlink 29 = .ok (.aload_n 0, 1) := by decide +kernel
theorem dX4_unlink_30 : decode cX4_unlink 30 = .ok (.aload_n 0, 1) := by decide +kernel
theorem dX4_unlink_31 : decode cX4_unlink 31 = .ok (.getfield 57, 3) := by decide +kernel
theorem dX4_unlink_34 : decode cX4_unlink 34 = .ok (.iload_n 1, 1) := by decide +kernel
theorem dX4_unlink_35 : decode cX4_unlink 35 = .ok (.iaload, 1) := by decide +kernel
theorem dX4_unlink_36 : decode cX4_unlink 36 = .ok (.invokevirtual 154, 3) := by decide +kernel
theorem dX4_unlink_39 : decode cX4_unlink 39 = .ok (.istore_n 2, 1) := by decide +kernel
theorem dX4_unlink_40 : decode cX4_unlink 40 = .ok (.aload_n 0, 1) := by decide +kernel
theorem dX4_unlink_41 : decode cX4_unlink 41 = .ok (.getfield 69, 3) := by decide +kernel
theorem dX4_unlink_44 : decode cX4_unlink 44 = .ok (.iload_n 2, 1) := by decide +kernel
theorem dX4_unlink_45 : decode cX4_unlink 45 = .ok (.iaload, 1) := by decide +kernel
theorem dX4_unlink_46 : decode cX4_unlink 46 = .ok (.iload_n 1, 1) := by decide +kernel
theorem dX4_unlink_47 : decode cX4_unlink 47 = .ok (.if_icmp .ne 18, 3) := by decide +kernel
theorem dX4_unlink_50 : decode cX4_unlink 50 = .ok (.aload_n 0, 1) := by decide +kernel
theorem dX4_unlink_51 : decode cX4_unlink 51 = .ok (.getfield 69, 3) := by decide +kernel
theorem dX4_unlink_54 : decode cX4_unlink 54 = .ok (.iload_n 2, 1) := by decide +kernel
theorem dX4_unlink_55 : decode cX4_unlink 55 = .ok (.aload_n 0, 1) := by decide +kernel
theorem dX4_unlink_56 : decode cX4_unlink 56 = .ok (.getfield 66, 3) := by decide +kernel
theorem dX4_unlink_59 : decode cX4_unlink 59 = .ok (.iload_n 1, 1) := by decide +kernel
theorem dX4_unlink_60 : decode cX4_unlink 60 = .ok (.iaload, 1) := by decide +kernel
theorem dX4_unlink_61 : decode cX4_unlink 61 = .ok (.iastore, 1) := by decide +kernel
theorem dX4_unlink_62 : decode cX4_unlink 62 = .ok (.goto 42, 3) := by decide +kernel
theorem dX4_unlink_65 : decode cX4_unlink 65 = .ok (.aload_n 0, 1) := by decide +kernel
theorem dX4_unlink_66 : decode cX4_unlink 66 = .ok (.getfield 69, 3) := by decide +kernel
theorem dX4_unlink_69 : decode cX4_unlink 69 = .ok (.iload_n 2, 1) := by decide +kernel
theorem dX4_unlink_70 : decode cX4_unlink 70 = .ok (.iaload, 1) := by decide +kernel
theorem dX4_unlink_71 : decode cX4_unlink 71 = .ok (.istore_n 3, 1) := by decide +kernel
theorem dX4_unlink_72 : decode cX4_unlink 72 = .ok (.aload_n 0, 1) := by decide +kernel
theorem dX4_unlink_73 : decode cX4_unlink 73 = .ok (.getfield 66, 3) := by decide +kernel
theorem dX4_unlink_76 : decode cX4_unlink 76 = .ok (.iload_n 3, 1) := by decide +kernel
theorem dX4_unlink_77 : decode cX4_unlink 77 = .ok (.iaload, 1) := by decide +kernel
theorem dX4_unlink_78 : decode cX4_unlink 78 = .ok (.iload_n 1, 1) := by decide +kernel
theorem dX4_unlink_79 : decode cX4_unlink 79 = .ok (.if_icmp .eq 13, 3) := by decide +kernel
theorem dX4_unlink_82 : decode cX4_unlink 82 = .ok (.aload_n 0, 1) := by decide +kernel
theorem dX4_unlink_83 : decode cX4_unlink 83 = .ok (.getfield 66, 3) := by decide +kernel
theorem dX4_unlink_86 : decode cX4_unlink 86 = .ok (.iload_n 3, 1) := by decide +kernel
theorem dX4_unlink_87 : decode cX4_unlink 87 = .ok (.iaload, 1) := by decide +kernel
theorem dX4_unlink_88 : decode cX4_unlink 88 = .ok (.istore_n 3, 1) := by decide +kernel
theorem dX4_unlink_89 : decode cX4_unlink 89 = .ok (.goto (-17), 3) := by decide +kernel
theorem dX4_unlink_92 : decode cX4_unlink 92 = .ok (.aload_n 0, 1) := by decide +kernel
theorem dX4_unlink_93 : decode cX4_unlink 93 = .ok (.getfield 66, 3) := by decide +kernel
theorem dX4_unlink_96 : decode cX4_unlink 96 = .ok (.iload_n 3, 1) := by decide +kernel
theorem dX4_unlink_97 : decode cX4_unlink 97 = .ok (.aload_n 0, 1) := by decide +kernel
theorem dX4_unlink_98 : decode cX4_unlink 98 = .ok (.getfield 66, 3) := by decide +kernel
theorem dX4_unlink_101 : decode cX4_unlink 101 = .ok (.iload_n 1, 1) := by decide +kernel
theorem dX4_unlink_102 : decode cX4_unlink 102 = .ok (.iaload, 1) := by decide +kernel
theorem dX4_unlink_103 : decode cX4_unlink 103 = .ok (.iastore, 1) := by decide +kernel
theorem dX4_unlink_104 : decode cX4_unlink 104 = .ok (.aload_n 0, 1) := by decide +kernel
theorem dX4_unlink_105 : decode cX4_unlink 105 = .ok (.getfield 66, 3) := by decide +kernel
theorem dX4_unlink_108 : decode cX4_unlink 108 = .ok (.iload_n 1, 1) := by decide +kernel
theorem dX4_unlink_109 : decode cX4_unlink 109 = .ok (.aload_n 0, 1) := by decide +kernel
theorem dX4_unlink_110 : decode cX4_unlink 110 = .ok (.getfield 157, 3) := by decide +kernel
theorem dX4_unlink_113 : decode cX4_unlink 113 = .ok (.iastore, 1) := by decide +kernel
theorem dX4_unlink_114 : decode cX4_unlink 114 = .ok (.aload_n 0, 1) := by decide +kernel
theorem dX4_unlink_115 : decode cX4_unlink 115 = .ok (.iload_n 1, 1) := by decide +kernel
theorem dX4_unlink_116 : decode cX4_unlink 116 = .ok (.putfield 157, 3) := by decide +kernel
theorem dX4_unlink_119 : decode cX4_unlink 119 = .ok (.return_, 1) := by decide +kernel
theorem dX4_add_0 : decode cX4_add 0 = .ok (.aload_n 0, 1) := by decide +kernel
theorem dX4_add_1 : decode cX4_add 1 = .ok (.getfield 44, 3) := by decide +kernel
theorem dX4_add_4 : decode cX4_add 4 = .ok (.iload_n 1, 1) := by decide +kernel
theorem dX4_add_5 : decode cX4_add 5 = .ok (.iconst 1, 1) := by decide +kernel
theorem dX4_add_6 : decode cX4_add 6 = .ok (.bastore, 1) := by decide +kernel
theorem dX4_add_7 : decode cX4_add 7 = .ok (.aload_n 0, 1) := by decide +kernel
theorem dX4_add_8 : decode cX4_add 8 = .ok (.getfield 51, 3) := by decide +kernel
theorem dX4_add_11 : decode cX4_add 11 = .ok (.iload_n 1, 1) := by decide +kernel
theorem dX4_add_12 : decode cX4_add 12 = .ok (.iconst 0, 1) := by decide +kernel
theorem dX4_add_13 : decode cX4_add 13 = .ok (.iastore, 1) := by decide +kernel
theorem dX4_add_14 : decode cX4_add 14 = .ok (.aload_n 0, 1) := by decide +kernel
theorem dX4_add_15 : decode cX4_add 15 = .ok (.dup, 1) := by decide +kernel
theorem dX4_add_16 : decode cX4_add 16 = .ok (.getfield 160, 3) := by decide +kernel
theorem dX4_add_19 : decode cX4_add 19 = .ok (.iconst 1, 1) := by decide +kernel
theorem dX4_add_20 : decode cX4_add 20 = .ok (.iadd, 1) := by decide +kernel
theorem dX4_add_21 : decode cX4_add 21 = .ok (.putfield 160, 3) := by decide +kernel
theorem dX4_add_24 : decode cX4_add 24 = .ok (.iconst 0, 1) := by decide +kernel
theorem dX4_add_25 : decode cX4_add 25 = .ok (.istore_n 2, 1) := by decide +kernel
theorem dX4_add_26 : decode cX4_add 26 = .ok (.iload_n 2, 1) := by decide +kernel
theorem dX4_add_27 : decode cX4_add 27 = .ok (.bipush 8, 2) := by decide +kernel
theorem dX4_add_29 : decode cX4_add 29 = .ok (.if_icmp .ge 130, 3) := by decide +kernel
theorem dX4_add_32 : decode cX4_add 32 = .ok (.iconst 0, 1) := by decide +kernel
theorem dX4_add_33 : decode cX4_add 33 = .ok (.istore_n 3, 1) := by decide +kernel
theorem dX4_add_34 : decode cX4_add 34 = .ok (.iload_n 3, 1) := by decide +kernel
theorem dX4_add_35 : decode cX4_add 35 = .ok (.iconst 1, 1) := by decide +kernel
theorem dX4_add_36 : decode cX4_add 36 = .ok (.iload_n 2, 1) := by decide +kernel
theorem dX4_add_37 : decode cX4_add 37 = .ok (.ishl, 1) := by decide +kernel
theorem dX4_add_38 : decode cX4_add 38 = .ok (.if_icmp .ge 115, 3) := by decide +kernel
theorem dX4_add_41 : decode cX4_add 41 = .ok (.aload_n 0, 1) := by decide +kernel
theorem dX4_add_42 : decode cX4_add 42 = .ok (.iload_n 1, 1) := by decide +kernel
theorem dX4_add_43 : decode cX4_add 43 = .ok (.iload_n 2, 1) := by decide +kernel
theorem dX4_add_44 : decode cX4_add 44 = .ok (.iload_n 3, 1) := by decide +kernel
theorem dX4_add_45 : decode cX4_add 45 = .ok (.invokevirtual 163, 3) := by decide +kernel
theorem dX4_add_48 : decode cX4_add 48 = .ok (.ifCond .eq 99, 3) := by decide +kernel
theorem dX4_add_51 : decode cX4_add 51 = .ok (.aload_n 0, 1) := by decide +kernel
theorem dX4_add_52 : decode cX4_add 52 = .ok (.iload_n 2, 1) := by decide +kernel
theorem dX4_add_53 : decode cX4_add 53 = .ok (.invokevirtual 166, 3) := by decide +kernel
theorem dX4_add_56 : decode cX4_add 56 = .ok (.istore 4, 2) := by decide +kernel
theorem dX4_add_58 : decode cX4_add 58 = .ok (.aload_n 0, 1) := by decide +kernel
theorem dX4_add_59 : decode cX4_add 59 = .ok (.getfield 72, 3) := by decide +kernel
theorem dX4_add_62 : decode cX4_add 62 = .ok (.iload 4, 2) := by decide +kernel
theorem dX4_add_64 : decode cX4_add 64 = .ok (.iaload, 1) := by decide +kernel
theorem dX4_add_65 : decode cX4_add 65 = .ok (.aload_n 0, 1) := by decide +kernel
theorem dX4_add_66 : decode cX4_add 66 = .ok (.getfield 160, 3) := by decide +kernel
theorem dX4_add_69 : decode cX4_add 69 = .ok (.if_icmp .eq 78, 3) := by decide +kernel
theorem dX4_add_72 : decode cX4_add 72 = .ok (.aload_n 0, 1) := by decide +kernel
theorem dX4_add_73 : decode cX4_add 73 = .ok (.getfield 72, 3) := by decide +kernel
theorem dX4_add_76 : decode cX4_add 76 = .ok (.iload 4, 2) := by decide +kernel
theorem dX4_add_78 : decode cX4_add 78 = .ok (.aload_n 0, 1) := by decide +kernel
theorem dX4_add_79 : decode cX4_add 79 = .ok (.getfield 160, 3) := by decide +kernel
theorem dX4_add_82 : decode cX4_add 82 = .ok (.iastore, 1) := by decide +kernel
theorem dX4_add_83 : decode cX4_add 83 = .ok (.aload_n 0, 1) := by decide +kernel
theorem dX4_add_84 : decode cX4_add 84 = .ok (.dup, 1) := by decide +kernel
theorem dX4_add_85 : decode cX4_add 85 = .ok (.getfield 149, 3) := by decide +kernel
theorem dX4_add_88 : decode cX4_add 88 = .ok (.aload_n 0, 1) := by decide +kernel
theorem dX4_add_89 : decode cX4_add 89 = .ok (.getfield 63, 3) := by decide +kernel
theorem dX4_add_92 : decode cX4_add 92 = .ok (.iload 4, 2) := by decide +kernel
theorem dX4_add_94 : decode cX4_add 94 = .ok (.iaload, 1) := by decide +kernel
theorem dX4_add_95 : decode cX4_add 95 = .ok (.ifCond .ne 7, 3) := by decide +kernel
theorem dX4_add_98 : decode cX4_add 98 = .ok (.iconst 1, 1) := by decide +kernel
theorem dX4_add_99 : decode cX4_add 99 = .ok (.goto 4, 3) := by decide +kernel
theorem dX4_add_102 : decode cX4_add 102 = .ok (.iconst 0, 1) := by decide +kernel
theorem dX4_add_103 : decode cX4_add 103 = .ok (.iadd, 1) := by decide +kernel
theorem dX4_add_104 : decode cX4_add 104 = .ok (.putfield 149, 3) := by decide +kernel
theorem dX4_add_107 : decode cX4_add 107 = .ok (.aload_n 0, 1) := by decide +kernel
theorem dX4_add_108 : decode cX4_add 108 = .ok (.getfield 63, 3) := by decide +kernel
theorem dX4_add_111 : decode cX4_add 111 = .ok (.iload 4, 2) := by decide +kernel
theorem dX4_add_113 : decode cX4_add 113 = .ok (.dup2, 1) := by decide +kernel
theorem dX4_add_114 : decode cX4_add 114 = .ok (.iaload, 1) := by decide +kernel
theorem dX4_add_115 : decode cX4_add 115 = .ok (.iconst 1, 1) := by decide +kernel
theorem dX4_add_116 : decode cX4_add 116 = .ok (.iadd, 1) := by decide +kernel
theorem dX4_add_117 : decode cX4_add 117 = .ok (.iastore, 1) := by decide +kernel
theorem dX4_add_118 : decode cX4_add 118 = .ok (.aload_n 0, 1) := by decide +kernel
theorem dX4_add_119 : decode cX4_add 119 = .ok (.getfield 54, 3) := by decide +kernel
theorem dX4_add_122 : decode cX4_add 122 = .ok (.sipush 255, 3) := by decide +kernel
theorem dX4_add_125 : decode cX4_add 125 = .ok (.iload_n 1, 1) := by decide +kernel
theorem dX4_add_126 : decode cX4_add 126 = .ok (.imul, 1) := by decide +kernel
theorem dX4_add_127 : decode cX4_add 127 = .ok (.aload_n 0, 1) := by decide +kernel
theorem dX4_add_128 : decode cX4_add 128 = .ok (.getfield 51, 3) := by decide +kernel
theorem dX4_add_131 : decode cX4_add 131 = .ok (.iload_n 1, 1) := by decide +kernel
theorem dX4_add_132 : decode cX4_add 132 = .ok (.iaload, 1) := by decide +kernel
theorem dX4_add_133 : decode cX4_add 133 = .ok (.iadd, 1) := by decide +kernel
theorem dX4_add_134 : decode cX4_add 134 = .ok (.iload 4, 2) := by decide +kernel
theorem dX4_add_136 : decode cX4_add 136 = .ok (.iastore, 1) := by decide +kernel
theorem dX4_add_137 : decode cX4_add 137 = .ok (.aload_n 0, 1) := by decide +kernel
theorem dX4_add_138 : decode cX4_add 138 = .ok (.getfield 51, 3) := by decide +kernel
theorem dX4_add_141 : decode cX4_add 141 = .ok (.iload_n 1, 1) := by decide +kernel
theorem dX4_add_142 : decode cX4_add 142 = .ok (.dup2, 1) := by decide +kernel
theorem dX4_add_143 : decode cX4_add 143 = .ok (.iaload, 1) := by decide +kernel
theorem dX4_add_144 : decode cX4_add 144 = .ok (.iconst 1, 1) := by decide +kernel
theorem dX4_add_145 : decode cX4_add 145 = .ok (.iadd, 1) := by decide +kernel
theorem dX4_add_146 : decode cX4_add 146 = .ok (.iastore, 1) := by decide +kernel
theorem dX4_add_147 : decode cX4_add 147 = .ok (.iinc 3 1, 3) := by decide +kernel
theorem dX4_add_150 : decode cX4_add 150 = .ok (.goto (-116), 3) := by decide +kernel
theorem dX4_add_153 : decode cX4_add 153 = .ok (.iinc 2 1, 3) := by decide +kernel
theorem dX4_add_156 : decode cX4_add 156 = .ok (.goto (-130), 3) := by decide +kernel
theorem dX4_add_159 : decode cX4_add 159 = .ok (.return_, 1) := by decide +kernel
theorem dX4_remove_0 : decode cX4_remove 0 = .ok (.iconst 0, 1) := by decide +kernel
theorem dX4_remove_1 : decode cX4_remove 1 = .ok (.istore_n 2, 1) := by decide +kernel
theorem dX4_remove_2 : decode cX4_remove 2 = .ok (.iload_n 2, 1) := by decide +kernel
theorem dX4_remove_3 : decode cX4_remove 3 = .ok (.aload_n 0, 1) := by decide +kernel
theorem dX4_remove_4 : decode cX4_remove 4 = .ok (.getfield 51, 3) := by decide +kernel
theorem dX4_remove_7 : decode cX4_remove 7 = .ok (.iload_n 1, 1) := by decide +kernel
theorem dX4_remove_8 : decode cX4_remove 8 = .ok (.iaload, 1) := by decide +kernel
theorem dX4_remove_9 : decode cX4_remove 9 = .ok (.if_icmp .ge 72, 3) := by decide +kernel
theorem dX4_remove_12 : decode cX4_remove 12 = .ok (.aload_n 0, 1) := by decide +kernel
theorem dX4_remove_13 : decode cX4_remove 13 = .ok (.getfield 44, 3) := by decide +kernel
theorem dX4_remove_16 : decode cX4_remove 16 = .ok (.iload_n 1, 1) := by decide +kernel
theorem dX4_remove_17 : decode cX4_remove 17 = .ok (.baload, 1) := by decide +kernel
theorem dX4_remove_18 : decode cX4_remove 18 = .ok (.ifCond .eq 63, 3) := by decide +kernel
theorem dX4_remove_21 : decode cX4_remove 21 = .ok (.aload_n 0, 1) := by decide +kernel
theorem dX4_remove_22 : decode cX4_remove 22 = .ok (.getfield 54, 3) := by decide +kernel
theorem dX4_remove_25 : decode cX4_remove 25 = .ok (.sipush 255, 3) := by decide +kernel
theorem dX4_remove_28 : decode cX4_remove 28 = .ok (.iload_n 1, 1) := by decide +kernel
theorem dX4_remove_29 : decode cX4_remove 29 = .ok (.imul, 1) := by decide +kernel
theorem dX4_remove_30 : decode cX4_remove 30 = .ok (.iload_n 2, 1) := by decide +kernel
theorem dX4_remove_31 : decode cX4_remove 31 = .ok (.iadd, 1) := by decide +kernel
theorem dX4_remove_32 : decode cX4_remove 32 = .ok (.iaload, 1) := by decide +kernel
theorem dX4_remove_33 : decode cX4_remove 33 = .ok (.istore_n 3, 1) := by decide +kernel
theorem dX4_remove_34 : decode cX4_remove 34 = .ok (.aload_n 0, 1) := by decide +kernel
theorem dX4_remove_35 : decode cX4_remove 35 = .ok (.getfield 63, 3) := by decide +kernel
theorem dX4_remove_38 : decode cX4_remove 38 = .ok (.iload_n 3, 1) := by decide +kernel
theorem dX4_remove_39 : decode cX4_remove 39 = .ok (.dup2, 1) := by decide +kernel
theorem dX4_remove_40 : decode cX4_remove 40 = .ok (.iaload, 1) := by decide +kernel
theorem dX4_remove_41 : decode cX4_remove 41 = .ok (.iconst 1, 1) := by decide +kernel
theorem dX4_remove_42 : decode cX4_remove 42 = .ok (.isub, 1) := by decide +kernel
theorem dX4_remove_43 : decode cX4_remove 43 = .ok (.iastore, 1) := by decide +kernel
theorem dX4_remove_44 : decode cX4_remove 44 = .ok (.aload_n 0, 1) := by decide +kernel
theorem dX4_remove_45 : decode cX4_remove 45 = .ok (.getfield 63, 3) := by decide +kernel
theorem dX4_remove_48 : decode cX4_remove 48 = .ok (.iload_n 3, 1) := by decide +kernel
theorem dX4_remove_49 : decode cX4_remove 49 = .ok (.iaload, 1) := by decide +kernel
theorem dX4_remove_50 : decode cX4_remove 50 = .ok (.ifCond .ne 25, 3) := by decide +kernel
theorem dX4_remove_53 : decode cX4_remove 53 = .ok (.aload_n 0, 1) := by decide +kernel
theorem dX4_remove_54 : decode cX4_remove 54 = .ok (.dup, 1) := by decide +kernel
theorem dX4_remove_55 : decode cX4_remove 55 = .ok (.getfield 149, 3) := by decide +kernel
theorem dX4_remove_58 : decode cX4_remove 58 = .ok (.iconst 1, 1) := by decide +kernel
theorem dX4_remove_59 : decode cX4_remove 59 = .ok (.isub, 1) := by decide +kernel
theorem dX4_remove_60 : decode cX4_remove 60 = .ok (.putfield 149, 3) := by decide +kernel
theorem dX4_remove_63 : decode cX4_remove 63 = .ok (.aload_n 0, 1) := by decide +kernel
theorem dX4_remove_64 : decode cX4_remove 64 = .ok (.getfield 72, 3) := by decide +kernel
theorem dX4_remove_67 : decode cX4_remove 67 = .ok (.iload_n 3, 1) := by decide +kernel
theorem dX4_remove_68 : decode cX4_remove 68 = .ok (.iconst 0, 1) := by decide +kernel
theorem dX4_remove_69 : decode cX4_remove 69 = .ok (.iastore, 1) := by decide +kernel
theorem dX4_remove_70 : decode cX4_remove 70 = .ok (.aload_n 0, 1) := by decide +kernel
theorem dX4_remove_71 : decode cX4_remove 71 = .ok (.iload_n 3, 1) := by decide +kernel
theorem dX4_remove_72 : decode cX4_remove 72 = .ok (.invokevirtual 169, 3) := by decide +kernel
theorem dX4_remove_75 : decode cX4_remove 75 = .ok (.iinc 2 1, 3) := by decide +kernel
theorem dX4_remove_78 : decode cX4_remove 78 = .ok (.goto (-76), 3) := by decide +kernel
theorem dX4_remove_81 : decode cX4_remove 81 = .ok (.aload_n 0, 1) := by decide +kernel
theorem dX4_remove_82 : decode cX4_remove 82 = .ok (.getfield 44, 3) := by decide +kernel
theorem dX4_remove_85 : decode cX4_remove 85 = .ok (.iload_n 1, 1) := by decide +kernel
theorem dX4_remove_86 : decode cX4_remove 86 = .ok (.iconst 0, 1) := by decide +kernel
theorem dX4_remove_87 : decode cX4_remove 87 = .ok (.bastore, 1) := by decide +kernel
theorem dX4_remove_88 : decode cX4_remove 88 = .ok (.aload_n 0, 1) := by decide +kernel
theorem dX4_remove_89 : decode cX4_remove 89 = .ok (.getfield 51, 3) := by decide +kernel
theorem dX4_remove_92 : decode cX4_remove 92 = .ok (.iload_n 1, 1) := by decide +kernel
theorem dX4_remove_93 : decode cX4_remove 93 = .ok (.iconst 0, 1) := by decide +kernel
theorem dX4_remove_94 : decode cX4_remove 94 = .ok (.iastore, 1) := by decide +kernel
theorem dX4_remove_95 : decode cX4_remove 95 = .ok (.return_, 1) := by decide +kernel
theorem dX4_steps_0 : decode cX4_steps 0 = .ok (.aload_n 0, 1) := by decide +kernel
theorem dX4_steps_1 : decode cX4_steps 1 = .ok (.iload_n 1, 1) := by decide +kernel
theorem dX4_steps_2 : decode cX4_steps 2 = .ok (.invokevirtual 173, 3) := by decide +kernel
theorem dX4_steps_5 : decode cX4_steps 5 = .ok (.aload_n 0, 1) := by decide +kernel
theorem dX4_steps_6 : decode cX4_steps 6 = .ok (.aload_n 0, 1) := by decide +kernel
theorem dX4_steps_7 : decode cX4_steps 7 = .ok (.getfield 149, 3) := by decide +kernel
theorem dX4_steps_10 : decode cX4_steps 10 = .ok (.aload_n 0, 1) := by decide +kernel
theorem dX4_steps_11 : decode cX4_steps 11 = .ok (.getfield 102, 3) := by decide +kernel
theorem dX4_steps_14 : decode cX4_steps 14 = .ok (.if_icmp .le 12, 3) := by decide +kernel
theorem dX4_steps_17 : decode cX4_steps 17 = .ok (.aload_n 0, 1) := by decide +kernel
theorem dX4_steps_18 : decode cX4_steps 18 = .ok (.getfield 102, 3) := by decide +kernel
theorem dX4_steps_21 : decode cX4_steps 21 = .ok (.iconst 1, 1) := by decide +kernel
theorem dX4_steps_22 : decode cX4_steps 22 = .ok (.iadd, 1) := by decide +kernel
theorem dX4_steps_23 : decode cX4_steps 23 = .ok (.goto 25, 3) := by decide +kernel
theorem dX4_steps_26 : decode cX4_steps 26 = .ok (.aload_n 0, 1) := by decide +kernel
theorem dX4_steps_27 : decode cX4_steps 27 = .ok (.getfield 149, 3) := by decide +kernel
theorem dX4_steps_30 : decode cX4_steps 30 = .ok (.aload_n 0, 1) := by decide +kernel
theorem dX4_steps_31 : decode cX4_steps 31 = .ok (.getfield 176, 3) := by decide +kernel
theorem dX4_steps_34 : decode cX4_steps 34 = .ok (.if_icmp .le 10, 3) := by decide +kernel
theorem dX4_steps_37 : decode cX4_steps 37 = .ok (.aload_n 0, 1) := by decide +kernel
theorem dX4_steps_38 : decode cX4_steps 38 = .ok (.getfield 149, 3) := by decide +kernel
theorem dX4_steps_41 : decode cX4_steps 41 = .ok (.goto 7, 3) := by decide +kernel
theorem dX4_steps_44 : decode cX4_steps 44 = .ok (.aload_n 0, 1) := by decide +kernel
theorem dX4_steps_45 : decode cX4_steps 45 = .ok (.getfield 176, 3) := by decide +kernel
theorem dX4_steps_48 : decode cX4_steps 48 = .ok (.putfield 176, 3) := by decide +kernel
theorem dX4_steps_51 : decode cX4_steps 51 = .ok (.aload_n 0, 1) := by decide +kernel
theorem dX4_steps_52 : decode cX4_steps 52 = .ok (.getfield 149, 3) := by decide +kernel
theorem dX4_steps_55 : decode cX4_steps 55 = .ok (.aload_n 0, 1) := by decide +kernel
theorem dX4_steps_56 : decode cX4_steps 56 = .ok (.getfield 102, 3) := by decide +kernel
theorem dX4_steps_59 : decode cX4_steps 59 = .ok (.if_icmp .gt 7, 3) := by decide +kernel
theorem dX4_steps_62 : decode cX4_steps 62 = .ok (.iconst 1, 1) := by decide +kernel
theorem dX4_steps_63 : decode cX4_steps 63 = .ok (.goto 4, 3) := by decide +kernel
theorem dX4_steps_66 : decode cX4_steps 66 = .ok (.iconst 0, 1) := by decide +kernel
theorem dX4_steps_67 : decode cX4_steps 67 = .ok (.ireturn, 1) := by decide +kernel
theorem dX4_clearHand_0 : decode cX4_clearHand 0 = .ok (.bipush 12, 2) := by decide +kernel
theorem dX4_clearHand_2 : decode cX4_clearHand 2 = .ok (.istore_n 1, 1) := by decide +kernel
theorem dX4_clearHand_3 : decode cX4_clearHand 3 = .ok (.iload_n 1, 1) := by decide +kernel
theorem dX4_clearHand_4 : decode cX4_clearHand 4 = .ok (.bipush 56, 2) := by decide +kernel
theorem dX4_clearHand_6 : decode cX4_clearHand 6 = .ok (.if_icmp .ge 14, 3) := by decide +kernel
theorem dX4_clearHand_9 : decode cX4_clearHand 9 = .ok (.aload_n 0, 1) := by decide +kernel
theorem dX4_clearHand_10 : decode cX4_clearHand 10 = .ok (.iload_n 1, 1) := by decide +kernel
theorem dX4_clearHand_11 : decode cX4_clearHand 11 = .ok (.invokevirtual 179, 3) := by decide +kernel
theorem dX4_clearHand_14 : decode cX4_clearHand 14 = .ok (.iinc 1 1, 3) := by decide +kernel
theorem dX4_clearHand_17 : decode cX4_clearHand 17 = .ok (.goto (-14), 3) := by decide +kernel
theorem dX4_clearHand_20 : decode cX4_clearHand 20 = .ok (.return_, 1) := by decide +kernel
theorem dX4_take_0 : decode cX4_take 0 = .ok (.aload_n 0, 1) := by decide +kernel
theorem dX4_take_1 : decode cX4_take 1 = .ok (.iload_n 2, 1) := by decide +kernel
theorem dX4_take_2 : decode cX4_take 2 = .ok (.invokevirtual 179, 3) := by decide +kernel
theorem dX4_take_5 : decode cX4_take 5 = .ok (.iconst 0, 1) := by decide +kernel
theorem dX4_take_6 : decode cX4_take 6 = .ok (.istore_n 3, 1) := by decide +kernel
theorem dX4_take_7 : decode cX4_take 7 = .ok (.iload_n 3, 1) := by decide +kernel
theorem dX4_take_8 : decode cX4_take 8 = .ok (.iconst 4, 1) := by decide +kernel
theorem dX4_take_9 : decode cX4_take 9 = .ok (.if_icmp .ge 29, 3) := by decide +kernel
theorem dX4_take_12 : decode cX4_take 12 = .ok (.aload_n 0, 1) := by decide +kernel
theorem dX4_take_13 : decode cX4_take 13 = .ok (.getfield 47, 3) := by decide +kernel
theorem dX4_take_16 : decode cX4_take 16 = .ok (.iconst 4, 1) := by decide +kernel
theorem dX4_take_17 : decode cX4_take 17 = .ok (.iload_n 2, 1) := by decide +kernel
theorem dX4_take_18 : decode cX4_take 18 = .ok (.imul, 1) := by decide +kernel
theorem dX4_take_19 : decode cX4_take 19 = .ok (.iload_n 3, 1) := by decide +kernel
theorem dX4_take_20 : decode cX4_take 20 = .ok (.iadd, 1) := by decide +kernel
theorem dX4_take_21 : decode cX4_take 21 = .ok (.aload_n 0, 1) := by decide +kernel
theorem dX4_take_22 : decode cX4_take 22 = .ok (.getfield 47, 3) := by decide +kernel
theorem dX4_take_25 : decode cX4_take 25 = .ok (.iconst 4, 1) := by decide +kernel
theorem dX4_take_26 : decode cX4_take 26 = .ok (.iload_n 1, 1) := by decide +kernel
theorem dX4_take_27 : decode cX4_take 27 = .ok (.imul, 1) := by decide +kernel
theorem dX4_take_28 : decode cX4_take 28 = .ok (.iload_n 3, 1) := by decide +kernel
theorem dX4_take_29 : decode cX4_take 29 = .ok (.iadd, 1) := by decide +kernel
theorem dX4_take_30 : decode cX4_take 30 = .ok (.laload, 1) := by decide +kernel
theorem dX4_take_31 : decode cX4_take 31 = .ok (.lastore, 1) := by decide +kernel
theorem dX4_take_32 : decode cX4_take 32 = .ok (.iinc 3 1, 3) := by decide +kernel
theorem dX4_take_35 : decode cX4_take 35 = .ok (.goto (-28), 3) := by decide +kernel
theorem dX4_take_38 : decode cX4_take 38 = .ok (.aload_n 0, 1) := by decide +kernel
theorem dX4_take_39 : decode cX4_take 39 = .ok (.iload_n 2, 1) := by decide +kernel
theorem dX4_take_40 : decode cX4_take 40 = .ok (.invokevirtual 173, 3) := by decide +kernel
theorem dX4_take_43 : decode cX4_take 43 = .ok (.return_, 1) := by decide +kernel
theorem dX4_gets_0 : decode cX4_gets 0 = .ok (.iload_n 3, 1) := by decide +kernel
theorem dX4_gets_1 : decode cX4_gets 1 = .ok (.ifCond .eq 9, 3) := by decide +kernel
theorem dX4_gets_4 : decode cX4_gets 4 = .ok (.aload_n 0, 1) := by decide +kernel
theorem dX4_gets_5 : decode cX4_gets 5 = .ok (.iload_n 2, 1) := by decide +kernel
theorem dX4_gets_6 : decode cX4_gets 6 = .ok (.iload_n 1, 1) := by decide +kernel
theorem dX4_gets_7 : decode cX4_gets 7 = .ok (.invokevirtual 182, 3) := by decide +kernel
theorem dX4_gets_10 : decode cX4_gets 10 = .ok (.aload_n 0, 1) := by decide +kernel
theorem dX4_gets_11 : decode cX4_gets 11 = .ok (.invokevirtual 185, 3) := by decide +kernel
theorem dX4_gets_14 : decode cX4_gets 14 = .ok (.iload_n 3, 1) := by decide +kernel
theorem dX4_gets_15 : decode cX4_gets 15 = .ok (.ifCond .eq 12, 3) := by decide +kernel
theorem dX4_gets_18 : decode cX4_gets 18 = .ok (.aload_n 0, 1) := by decide +kernel
theorem dX4_gets_19 : decode cX4_gets 19 = .ok (.getfield 51, 3) := by decide +kernel
theorem dX4_gets_22 : decode cX4_gets 22 = .ok (.iload_n 1, 1) := by decide +kernel
theorem dX4_gets_23 : decode cX4_gets 23 = .ok (.iaload, 1) := by decide +kernel
theorem dX4_gets_24 : decode cX4_gets 24 = .ok (.goto 5, 3) := by decide +kernel
theorem dX4_gets_27 : decode cX4_gets 27 = .ok (.bipush (-5), 2) := by decide +kernel
theorem dX4_gets_29 : decode cX4_gets 29 = .ok (.ireturn, 1) := by decide +kernel
theorem dX4_makeVariable_0 : decode cX4_makeVariable 0 = .ok (.aload_n 0, 1) := by decide +kernel
theorem dX4_makeVariable_1 : decode cX4_makeVariable 1 = .ok (.getfield 32, 3) := by decide +kernel
theorem dX4_makeVariable_4 : decode cX4_makeVariable 4 = .ok (.iload_n 2, 1) := by decide +kernel
theorem dX4_makeVariable_5 : decode cX4_makeVariable 5 = .ok (.iaload, 1) := by decide +kernel
theorem dX4_makeVariable_6 : decode cX4_makeVariable 6 = .ok (.istore_n 3, 1) := by decide +kernel
theorem dX4_makeVariable_7 : decode cX4_makeVariable 7 = .ok (.iconst 0, 1) := by decide +kernel
theorem dX4_makeVariable_8 : decode cX4_makeVariable 8 = .ok (.istore 4, 2) := by decide +kernel
theorem dX4_makeVariable_10 : decode cX4_makeVariable 10 = .ok (.iload 4, 2) := by decide +kernel
theorem dX4_makeVariable_12 : decode cX4_makeVariable 12 = .ok (.iconst 4, 1) := by decide +kernel
theorem dX4_makeVariable_13 : decode cX4_makeVariable 13 = .ok (.if_icmp .ge 62, 3) := by decide +kernel
theorem dX4_makeVariable_16 : decode cX4_makeVariable 16 = .ok (.aload_n 0, 1) := by decide +kernel
theorem dX4_makeVariable_17 : decode cX4_makeVariable 17 = .ok (.getfield 47, 3) := by decide +kernel
theorem dX4_makeVariable_20 : decode cX4_makeVariable 20 = .ok (.iconst 4, 1) := by decide +kernel
theorem dX4_makeVariable_21 : decode cX4_makeVariable 21 = .ok (.iload_n 1, 1) := by decide +kernel
theorem dX4_makeVariable_22 : decode cX4_makeVariable 22 = .ok (.imul, 1) := by decide +kernel
theorem dX4_makeVariable_23 : decode cX4_makeVariable 23 = .ok (.iload 4, 2) := by decide +kernel
theorem dX4_makeVariable_25 : decode cX4_makeVariable 25 = .ok (.iadd, 1) := by decide +kernel
theorem dX4_makeVariable_26 : decode cX4_makeVariable 26 = .ok (.iload_n 3, 1) := by decide +kernel
theorem dX4_makeVariable_27 : decode cX4_makeVariable 27 = .ok (.iconst 1, 1) := by decide +kernel
theorem dX4_makeVariable_28 : decode cX4_makeVariable 28 = .ok (.if_icmp .le 12, 3) := by decide +kernel
theorem dX4_makeVariable_31 : decode cX4_makeVariable 31 = .ok (.aload_n 0, 1) := by decide +kernel
theorem dX4_makeVariable_32 : decode cX4_makeVariable 32 = .ok (.getfield 90, 3) := by decide +kernel
theorem dX4_makeVariable_35 : decode cX4_makeVariable 35 = .ok (.iload_n 3, 1) := by decide +kernel
theorem dX4_makeVariable_36 : decode cX4_makeVariable 36 = .ok (.laload, 1) := by decide +kernel
theorem dX4_makeVariable_37 : decode cX4_makeVariable 37 = .ok (.goto 31, 3) := by decide +kernel
theorem dX4_makeVariable_40 : decode cX4_makeVariable 40 = .ok (.iload_n 3, 1) := by decide +kernel
theorem dX4_makeVariable_41 : decode cX4_makeVariable 41 = .ok (.ifCond .ne 12, 3) := by decide +kernel
theorem dX4_makeVariable_44 : decode cX4_makeVariable 44 = .ok (.iload 4, 2) := by decide +kernel
theorem dX4_makeVariable_46 : decode cX4_makeVariable 46 = .ok (.iconst 1, 1) := by decide +kernel
theorem dX4_makeVariable_47 : decode cX4_makeVariable 47 = .ok (.if_icmp .le 20, 3) := by decide +kernel
theorem dX4_makeVariable_50 : decode cX4_makeVariable 50 = .ok (.goto 11, 3) := by decide +kernel
theorem dX4_makeVariable_53 : decode cX4_makeVariable 53 = .ok (.iload 4, 2) := by decide +kernel
theorem dX4_makeVariable_55 : decode cX4_makeVariable 55 = .ok (.iconst 2, 1) := by decide +kernel
theorem dX4_makeVariable_56 : decode cX4_makeVariable 56 = .ok (.irem, 1) := by decide +kernel
theorem dX4_makeVariable_57 : decode cX4_makeVariable 57 = .ok (.iconst 1, 1) := by decide +kernel
theorem dX4_makeVariable_58 : decode cX4_makeVariable 58 = .ok (.if_icmp .ne 9, 3) := by decide +kernel
theorem dX4_makeVariable_61 : decode cX4_makeVariable 61 = .ok (.ldc2_w 188, 3) := by decide +kernel
theorem dX4_makeVariable_64 : decode cX4_makeVariable 64 = .ok (.goto 4, 3) := by decide +kernel
theorem dX4_makeVariable_67 : decode cX4_makeVariable 67 = .ok (.lconst 0, 1) := by decide +kernel
theorem dX4_makeVariable_68 : decode cX4_makeVariable 68 = .ok (.lastore, 1) := by decide +kernel
theorem dX4_makeVariable_69 : decode cX4_makeVariable 69 = .ok (.iinc 4 1, 3) := by decide +kernel
theorem dX4_makeVariable_72 : decode cX4_makeVariable 72 = .ok (.goto (-62), 3) := by decide +kernel
theorem dX4_makeVariable_75 : decode cX4_makeVariable 75 = .ok (.return_, 1) := by decide +kernel
theorem dX4_joined_0 : decode cX4_joined 0 = .ok (.iload_n 0, 1) := by decide +kernel
theorem dX4_joined_1 : decode cX4_joined 1 = .ok (.tableswitch 87 1 8 #[47, 49, 53, 59, 63, 67, 71, 79], 47) := by decide +kernel
theorem dX4_joined_48 : decode cX4_joined 48 = .ok (.lconst 0, 1) := by decide +kernel
theorem dX4_joined_49 : decode cX4_joined 49 = .ok (.lreturn, 1) := by decide +kernel
theorem dX4_joined_50 : decode cX4_joined 50 = .ok (.ldc2_w 188, 3) := by decide +kernel
theorem dX4_joined_53 : decode cX4_joined 53 = .ok (.lreturn, 1) := by decide +kernel
theorem dX4_joined_54 : decode cX4_joined 54 = .ok (.lload_n 1, 1) := by decide +kernel
theorem dX4_joined_55 : decode cX4_joined 55 = .ok (.ldc2_w 188, 3) := by decide +kernel
theorem dX4_joined_58 : decode cX4_joined 58 = .ok (.lxor, 1) := by decide +kernel
theorem dX4_joined_59 : decode cX4_joined 59 = .ok (.lreturn, 1) := by decide +kernel
theorem dX4_joined_60 : decode cX4_joined 60 = .ok (.lload_n 1, 1) := by decide +kernel
theorem dX4_joined_61 : decode cX4_joined 61 = .ok (.lload_n 3, 1) := by decide +kernel
theorem dX4_joined_62 : decode cX4_joined 62 = .ok (.land, 1) := by decide +kernel
theorem dX4_joined_63 : decode cX4_joined 63 = .ok (.lreturn, 1) := by decide +kernel
theorem dX4_joined_64 : decode cX4_joined 64 = .ok (.lload_n 1, 1) := by decide +kernel
theorem dX4_joined_65 : decode cX4_joined 65 = .ok (.lload_n 3, 1) := by decide +kernel
theorem dX4_joined_66 : decode cX4_joined 66 = .ok (.lor, 1) := by decide +kernel
theorem dX4_joined_67 : decode cX4_joined 67 = .ok (.lreturn, 1) := by decide +kernel
theorem dX4_joined_68 : decode cX4_joined 68 = .ok (.lload_n 1, 1) := by decide +kernel
theorem dX4_joined_69 : decode cX4_joined 69 = .ok (.lload_n 3, 1) := by decide +kernel
theorem dX4_joined_70 : decode cX4_joined 70 = .ok (.lxor, 1) := by decide +kernel
theorem dX4_joined_71 : decode cX4_joined 71 = .ok (.lreturn, 1) := by decide +kernel
theorem dX4_joined_72 : decode cX4_joined 72 = .ok (.lload_n 1, 1) := by decide +kernel
theorem dX4_joined_73 : decode cX4_joined 73 = .ok (.lload_n 3, 1) := by decide +kernel
theorem dX4_joined_74 : decode cX4_joined 74 = .ok (.land, 1) := by decide +kernel
theorem dX4_joined_75 : decode cX4_joined 75 = .ok (.ldc2_w 188, 3) := by decide +kernel
theorem dX4_joined_78 : decode cX4_joined 78 = .ok (.lxor, 1) := by decide +kernel
theorem dX4_joined_79 : decode cX4_joined 79 = .ok (.lreturn, 1) := by decide +kernel
theorem dX4_joined_80 : decode cX4_joined 80 = .ok (.lload_n 1, 1) := by decide +kernel
theorem dX4_joined_81 : decode cX4_joined 81 = .ok (.lload_n 3, 1) := by decide +kernel
theorem dX4_joined_82 : decode cX4_joined 82 = .ok (.lor, 1) := by decide +kernel
theorem dX4_joined_83 : decode cX4_joined 83 = .ok (.ldc2_w 188, 3) := by decide +kernel
theorem dX4_joined_86 : decode cX4_joined 86 = .ok (.lxor, 1) := by decide +kernel
theorem dX4_joined_87 : decode cX4_joined 87 = .ok (.lreturn, 1) := by decide +kernel
theorem dX4_joined_88 : decode cX4_joined 88 = .ok (.lload_n 1, 1) := by decide +kernel
theorem dX4_joined_89 : decode cX4_joined 89 = .ok (.lload_n 3, 1) := by decide +kernel
theorem dX4_joined_90 : decode cX4_joined 90 = .ok (.lxor, 1) := by decide +kernel
theorem dX4_joined_91 : decode cX4_joined 91 = .ok (.ldc2_w 188, 3) := by decide +kernel
theorem dX4_joined_94 : decode cX4_joined 94 = .ok (.lxor, 1) := by decide +kernel
theorem dX4_joined_95 : decode cX4_joined 95 = .ok (.lreturn, 1) := by decide +kernel
theorem dX4_makeOf_0 : decode cX4_makeOf 0 = .ok (.iconst 0, 1) := by decide +kernel
theorem dX4_makeOf_1 : decode cX4_makeOf 1 = .ok (.istore 5, 2) := by decide +kernel
theorem dX4_makeOf_3 : decode cX4_makeOf 3 = .ok (.iload 5, 2) := by decide +kernel
theorem dX4_makeOf_5 : decode cX4_makeOf 5 = .ok (.iconst 4, 1) := by decide +kernel
theorem dX4_makeOf_6 : decode cX4_makeOf 6 = .ok (.if_icmp .ge 47, 3) := by decide +kernel
theorem dX4_makeOf_9 : decode cX4_makeOf 9 = .ok (.aload_n 0, 1) := by decide +kernel
theorem dX4_makeOf_10 : decode cX4_makeOf 10 = .ok (.getfield 47, 3) := by decide +kernel
theorem dX4_makeOf_13 : decode cX4_makeOf 13 = .ok (.iconst 4, 1) := by decide +kernel
theorem dX4_makeOf_14 : decode cX4_makeOf 14 = .ok (.iload_n 1, 1) := by decide +kernel
theorem dX4_makeOf_15 : decode cX4_makeOf 15 = .ok (.imul, 1) := by decide +kernel
theorem dX4_makeOf_16 : decode cX4_makeOf 16 = .ok (.iload 5, 2) := by decide +kernel
theorem dX4_makeOf_18 : decode cX4_makeOf 18 = .ok (.iadd, 1) := by decide +kernel
theorem dX4_makeOf_19 : decode cX4_makeOf 19 = .ok (.iload_n 2, 1) := by decide +kernel
theorem dX4_makeOf_20 : decode cX4_makeOf 20 = .ok (.aload_n 0, 1) := by decide +kernel
theorem dX4_makeOf_21 : decode cX4_makeOf 21 = .ok (.getfield 47, 3) := by decide +kernel
theorem dX4_makeOf_24 : decode cX4_makeOf 24 = .ok (.iconst 4, 1) := by decide +kernel
theorem dX4_makeOf_25 : decode cX4_makeOf 25 = .ok (.iload_n 3, 1) := by decide +kernel
theorem dX4_makeOf_26 : decode cX4_makeOf 26 = .ok (.imul, 1) := by decide +kernel
theorem dX4_makeOf_27 : decode cX4_makeOf 27 = .ok (.iload 5, 2) := by decide +kernel
theorem dX4_makeOf_29 : decode cX4_makeOf 29 = .ok (.iadd, 1) := by decide +kernel
theorem dX4_makeOf_30 : decode cX4_makeOf 30 = .ok (.laload, 1) := by decide +kernel
theorem dX4_makeOf_31 : decode cX4_makeOf 31 = .ok (.aload_n 0, 1) := by decide +kernel
theorem dX4_makeOf_32 : decode cX4_makeOf 32 = .ok (.getfield 47, 3) := by decide +kernel
theorem dX4_makeOf_35 : decode cX4_makeOf 35 = .ok (.iconst 4, 1) := by decide +kernel
theorem dX4_makeOf_36 : decode cX4_makeOf 36 = .ok (.iload 4, 2) := by decide +kernel
theorem dX4_makeOf_38 : decode cX4_makeOf 38 = .ok (.imul, 1) := by decide +kernel
theorem dX4_makeOf_39 : decode cX4_makeOf 39 = .ok (.iload 5, 2) := by decide +kernel
theorem dX4_makeOf_41 : decode cX4_makeOf 41 = .ok (.iadd, 1) := by decide +kernel
theorem dX4_makeOf_42 : decode cX4_makeOf 42 = .ok (.laload, 1) := by decide +kernel
theorem dX4_makeOf_43 : decode cX4_makeOf 43 = .ok (.invokestatic 190, 3) := by decide +kernel
theorem dX4_makeOf_46 : decode cX4_makeOf 46 = .ok (.lastore, 1) := by decide +kernel
theorem dX4_makeOf_47 : decode cX4_makeOf 47 = .ok (.iinc 5 1, 3) := by decide +kernel
theorem dX4_makeOf_50 : decode cX4_makeOf 50 = .ok (.goto (-47), 3) := by decide +kernel
theorem dX4_makeOf_53 : decode cX4_makeOf 53 = .ok (.return_, 1) := by decide +kernel
theorem dX4_makeChoice_0 : decode cX4_makeChoice 0 = .ok (.iconst 0, 1) := by decide +kernel
theorem dX4_makeChoice_1 : decode cX4_makeChoice 1 = .ok (.istore 5, 2) := by decide +kernel
theorem dX4_makeChoice_3 : decode cX4_makeChoice 3 = .ok (.iload 5, 2) := by decide +kernel
theorem dX4_makeChoice_5 : decode cX4_makeChoice 5 = .ok (.iconst 4, 1) := by decide +kernel
theorem dX4_makeChoice_6 : decode cX4_makeChoice 6 = .ok (.if_icmp .ge 67, 3) := by decide +kernel
theorem dX4_makeChoice_9 : decode cX4_makeChoice 9 = .ok (.aload_n 0, 1) := by decide +kernel
theorem dX4_makeChoice_10 : decode cX4_makeChoice 10 = .ok (.getfield 47, 3) := by decide +kernel
theorem dX4_makeChoice_13 : decode cX4_makeChoice 13 = .ok (.iconst 4, 1) := by decide +kernel
theorem dX4_makeChoice_14 : decode cX4_makeChoice 14 = .ok (.iload_n 2, 1) := by decide +kernel
theorem dX4_makeChoice_15 : decode cX4_makeChoice 15 = .ok (.imul, 1) := by decide +kernel
theorem dX4_makeChoice_16 : decode cX4_makeChoice 16 = .ok (.iload 5, 2) := by decide +kernel
theorem dX4_makeChoice_18 : decode cX4_makeChoice 18 = .ok (.iadd, 1) := by decide +kernel
theorem dX4_makeChoice_19 : decode cX4_makeChoice 19 = .ok (.laload, 1) := by decide +kernel
theorem dX4_makeChoice_20 : decode cX4_makeChoice 20 = .ok (.lstore 6, 2) := by decide +kernel
theorem dX4_makeChoice_22 : decode cX4_makeChoice 22 = .ok (.aload_n 0, 1) := by decide +kernel
theorem dX4_makeChoice_23 : decode cX4_makeChoice 23 = .ok (.getfield 47, 3) := by decide +kernel
theorem dX4_makeChoice_26 : decode cX4_makeChoice 26 = .ok (.iconst 4, 1) := by decide +kernel
theorem dX4_makeChoice_27 : decode cX4_makeChoice 27 = .ok (.iload_n 1, 1) := by decide +kernel
theorem dX4_makeChoice_28 : decode cX4_makeChoice 28 = .ok (.imul, 1) := by decide +kernel
theorem dX4_makeChoice_29 : decode cX4_makeChoice 29 = .ok (.iload 5, 2) := by decide +kernel
theorem dX4_makeChoice_31 : decode cX4_makeChoice 31 = .ok (.iadd, 1) := by decide +kernel
theorem dX4_makeChoice_32 : decode cX4_makeChoice 32 = .ok (.lload 6, 2) := by decide +kernel
theorem dX4_makeChoice_34 : decode cX4_makeChoice 34 = .ok (.aload_n 0, 1) := by decide +kernel
theorem dX4_makeChoice_35 : decode cX4_makeChoice 35 = .ok (.getfield 47, 3) := by decide +kernel
theorem dX4_makeChoice_38 : decode cX4_makeChoice 38 = .ok (.iconst 4, 1) := by decide +kernel
theorem dX4_makeChoice_39 : decode cX4_makeChoice 39 = .ok (.iload_n 3, 1) := by decide +kernel
theorem dX4_makeChoice_40 : decode cX4_makeChoice 40 = .ok (.imul, 1) := by decide +kernel
theorem dX4_makeChoice_41 : decode cX4_makeChoice 41 = .ok (.iload 5, 2) := by decide +kernel
theorem dX4_makeChoice_43 : decode cX4_makeChoice 43 = .ok (.iadd, 1) := by decide +kernel
theorem dX4_makeChoice_44 : decode cX4_makeChoice 44 = .ok (.laload, 1) := by decide +kernel
theorem dX4_makeChoice_45 : decode cX4_makeChoice 45 = .ok (.land, 1) := by decide +kernel
theorem dX4_makeChoice_46 : decode cX4_makeChoice 46 = .ok (.lload 6, 2) := by decide +kernel
theorem dX4_makeChoice_48 : decode cX4_makeChoice 48 = .ok (.ldc2_w 188, 3) := by decide +kernel
theorem dX4_makeChoice_51 : decode cX4_makeChoice 51 = .ok (.lxor, 1) := by decide +kernel
theorem dX4_makeChoice_52 : decode cX4_makeChoice 52 = .ok (.aload_n 0, 1) := by decide +kernel
theorem dX4_makeChoice_53 : decode cX4_makeChoice 53 = .ok (.getfield 47, 3) := by decide +kernel
theorem dX4_makeChoice_56 : decode cX4_makeChoice 56 = .ok (.iconst 4, 1) := by decide +kernel
theorem dX4_makeChoice_57 : decode cX4_makeChoice 57 = .ok (.iload 4, 2) := by decide +kernel
theorem dX4_makeChoice_59 : decode cX4_makeChoice 59 = .ok (.imul, 1) := by decide +kernel
theorem dX4_makeChoice_60 : decode cX4_makeChoice 60 = .ok (.iload 5, 2) := by decide +kernel
theorem dX4_makeChoice_62 : decode cX4_makeChoice 62 = .ok (.iadd, 1) := by decide +kernel
theorem dX4_makeChoice_63 : decode cX4_makeChoice 63 = .ok (.laload, 1) := by decide +kernel
theorem dX4_makeChoice_64 : decode cX4_makeChoice 64 = .ok (.land, 1) := by decide +kernel
theorem dX4_makeChoice_65 : decode cX4_makeChoice 65 = .ok (.lor, 1) := by decide +kernel
theorem dX4_makeChoice_66 : decode cX4_makeChoice 66 = .ok (.lastore, 1) := by decide +kernel
theorem dX4_makeChoice_67 : decode cX4_makeChoice 67 = .ok (.iinc 5 1, 3) := by decide +kernel
theorem dX4_makeChoice_70 : decode cX4_makeChoice 70 = .ok (.goto (-67), 3) := by decide +kernel
theorem dX4_makeChoice_73 : decode cX4_makeChoice 73 = .ok (.return_, 1) := by decide +kernel
theorem dX4_makeHalf_0 : decode cX4_makeHalf 0 = .ok (.aload_n 0, 1) := by decide +kernel
theorem dX4_makeHalf_1 : decode cX4_makeHalf 1 = .ok (.getfield 32, 3) := by decide +kernel
theorem dX4_makeHalf_4 : decode cX4_makeHalf 4 = .ok (.iload_n 3, 1) := by decide +kernel
theorem dX4_makeHalf_5 : decode cX4_makeHalf 5 = .ok (.iaload, 1) := by decide +kernel
theorem dX4_makeHalf_6 : decode cX4_makeHalf 6 = .ok (.istore 5, 2) := by decide +kernel
theorem dX4_makeHalf_8 : decode cX4_makeHalf 8 = .ok (.iconst 0, 1) := by decide +kernel
theorem dX4_makeHalf_9 : decode cX4_makeHalf 9 = .ok (.istore 6, 2) := by decide +kernel
theorem dX4_makeHalf_11 : decode cX4_makeHalf 11 = .ok (.iload 6, 2) := by decide +kernel
theorem dX4_makeHalf_13 : decode cX4_makeHalf 13 = .ok (.iconst 4, 1) := by decide +kernel
theorem dX4_makeHalf_14 : decode cX4_makeHalf 14 = .ok (.if_icmp .ge 154, 3) := by decide +kernel
theorem dX4_makeHalf_17 : decode cX4_makeHalf 17 = .ok (.iload 5, 2) := by decide +kernel
theorem dX4_makeHalf_19 : decode cX4_makeHalf 19 = .ok (.iconst 2, 1) := by decide +kernel
theorem dX4_makeHalf_20 : decode cX4_makeHalf 20 = .ok (.if_icmp .ge 58, 3) := by decide +kernel
theorem dX4_makeHalf_23 : decode cX4_makeHalf 23 = .ok (.iload 5, 2) := by decide +kernel
theorem dX4_makeHalf_25 : decode cX4_makeHalf 25 = .ok (.ifCond .ne 7, 3) := by decide +kernel
theorem dX4_makeHalf_28 : decode cX4_makeHalf 28 = .ok (.iconst 2, 1) := by decide +kernel
theorem dX4_makeHalf_29 : decode cX4_makeHalf 29 = .ok (.goto 4, 3) := by decide +kernel
theorem dX4_makeHalf_32 : decode cX4_makeHalf 32 = .ok (.iconst 1, 1) := by decide +kernel
theorem dX4_makeHalf_33 : decode cX4_makeHalf 33 = .ok (.istore 7, 2) := by decide +kernel
theorem dX4_makeHalf_35 : decode cX4_makeHalf 35 = .ok (.aload_n 0, 1) := by decide +kernel
theorem dX4_makeHalf_36 : decode cX4_makeHalf 36 = .ok (.getfield 47, 3) := by decide +kernel
theorem dX4_makeHalf_39 : decode cX4_makeHalf 39 = .ok (.iconst 4, 1) := by decide +kernel
theorem dX4_makeHalf_40 : decode cX4_makeHalf 40 = .ok (.iload_n 1, 1) := by decide +kernel
theorem dX4_makeHalf_41 : decode cX4_makeHalf 41 = .ok (.imul, 1) := by decide +kernel
theorem dX4_makeHalf_42 : decode cX4_makeHalf 42 = .ok (.iload 6, 2) := by decide +kernel
theorem dX4_makeHalf_44 : decode cX4_makeHalf 44 = .ok (.iadd, 1) := by decide +kernel
theorem dX4_makeHalf_45 : decode cX4_makeHalf 45 = .ok (.aload_n 0, 1) := by decide +kernel
theorem dX4_makeHalf_46 : decode cX4_makeHalf 46 = .ok (.getfield 47, 3) := by decide +kernel
theorem dX4_makeHalf_49 : decode cX4_makeHalf 49 = .ok (.iconst 4, 1) := by decide +kernel
theorem dX4_makeHalf_50 : decode cX4_makeHalf 50 = .ok (.iload_n 2, 1) := by decide +kernel
theorem dX4_makeHalf_51 : decode cX4_makeHalf 51 = .ok (.imul, 1) := by decide +kernel
theorem dX4_makeHalf_52 : decode cX4_makeHalf 52 = .ok (.iload 4, 2) := by decide +kernel
theorem dX4_makeHalf_54 : decode cX4_makeHalf 54 = .ok (.ifCond .eq 11, 3) := by decide +kernel
theorem dX4_makeHalf_57 : decode cX4_makeHalf 57 = .ok (.iload 6, 2) := by decide +kernel
theorem dX4_makeHalf_59 : decode cX4_makeHalf 59 = .ok (.iload 7, 2) := by decide +kernel
theorem dX4_makeHalf_61 : decode cX4_makeHalf 61 = .ok (.ior, 1) := by decide +kernel
theorem dX4_makeHalf_62 : decode cX4_makeHalf 62 = .ok (.goto 10, 3) := by decide +kernel
theorem dX4_makeHalf_65 : decode cX4_makeHalf 65 = .ok (.iload 6, 2) := by decide +kernel
theorem dX4_makeHalf_67 : decode cX4_makeHalf 67 = .ok (.iload 7, 2) := by decide +kernel
theorem dX4_makeHalf_69 : decode cX4_makeHalf 69 = .ok (.iconst (-1), 1) := by decide +kernel
theorem dX4_makeHalf_70 : decode cX4_makeHalf 70 = .ok (.ixor, 1) := by decide +kernel
theorem dX4_makeHalf_71 : decode cX4_makeHalf 71 = .ok (.iand, 1) := by decide +kernel
theorem dX4_makeHalf_72 : decode cX4_makeHalf 72 = .ok (.iadd, 1) := by decide +kernel
theorem dX4_makeHalf_73 : decode cX4_makeHalf 73 = .ok (.laload, 1) := by decide +kernel
theorem dX4_makeHalf_74 : decode cX4_makeHalf 74 = .ok (.lastore, 1) := by decide +kernel
theorem dX4_makeHalf_75 : decode cX4_makeHalf 75 = .ok (.goto 87, 3) := by decide +kernel
theorem dX4_makeHalf_78 : decode cX4_makeHalf 78 = .ok (.iconst 1, 1) := by decide +kernel
theorem dX4_makeHalf_79 : decode cX4_makeHalf 79 = .ok (.bipush 7, 2) := by decide +kernel
theorem dX4_makeHalf_81 : decode cX4_makeHalf 81 = .ok (.iload 5, 2) := by decide +kernel
theorem dX4_makeHalf_83 : decode cX4_makeHalf 83 = .ok (.isub, 1) := by decide +kernel
theorem dX4_makeHalf_84 : decode cX4_makeHalf 84 = .ok (.ishl, 1) := by decide +kernel
theorem dX4_makeHalf_85 : decode cX4_makeHalf 85 = .ok (.istore 7, 2) := by decide +kernel
theorem dX4_makeHalf_87 : decode cX4_makeHalf 87 = .ok (.aload_n 0, 1) := by decide +kernel
theorem dX4_makeHalf_88 : decode cX4_makeHalf 88 = .ok (.getfield 47, 3) := by decide +kernel
theorem dX4_makeHalf_91 : decode cX4_makeHalf 91 = .ok (.iconst 4, 1) := by decide +kernel
theorem dX4_makeHalf_92 : decode cX4_makeHalf 92 = .ok (.iload_n 2, 1) := by decide +kernel
theorem dX4_makeHalf_93 : decode cX4_makeHalf 93 = .ok (.imul, 1) := by decide +kernel
theorem dX4_makeHalf_94 : decode cX4_makeHalf 94 = .ok (.iload 6, 2) := by decide +kernel
theorem dX4_makeHalf_96 : decode cX4_makeHalf 96 = .ok (.iadd, 1) := by decide +kernel
theorem dX4_makeHalf_97 : decode cX4_makeHalf 97 = .ok (.laload, 1) := by decide +kernel
theorem dX4_makeHalf_98 : decode cX4_makeHalf 98 = .ok (.iload 4, 2) := by decide +kernel
theorem dX4_makeHalf_100 : decode cX4_makeHalf 100 = .ok (.ifCond .eq 13, 3) := by decide +kernel
theorem dX4_makeHalf_103 : decode cX4_makeHalf 103 = .ok (.aload_n 0, 1) := by decide +kernel
theorem dX4_makeHalf_104 : decode cX4_makeHalf 104 = .ok (.getfield 90, 3) := by decide +kernel
theorem dX4_makeHalf_107 : decode cX4_makeHalf 107 = .ok (.iload 5, 2) := by decide +kernel
theorem dX4_makeHalf_109 : decode cX4_makeHalf 109 = .ok (.laload, 1) := by decide +kernel
theorem dX4_makeHalf_110 : decode cX4_makeHalf 110 = .ok (.goto 14, 3) := by decide +kernel
theorem dX4_makeHalf_113 : decode cX4_makeHalf 113 = .ok (.aload_n 0, 1) := by decide +kernel
theorem dX4_makeHalf_114 : decode cX4_makeHalf 114 = .ok (.getfield 90, 3) := by decide +kernel
theorem dX4_makeHalf_117 : decode cX4_makeHalf 117 = .ok (.iload 5, 2) := by decide +kernel
theorem dX4_makeHalf_119 : decode cX4_makeHalf 119 = .ok (.laload, 1) := by decide +kernel
theorem dX4_makeHalf_120 : decode cX4_makeHalf 120 = .ok (.ldc2_w 188, 3) := by decide +kernel
theorem dX4_makeHalf_123 : decode cX4_makeHalf 123 = .ok (.lxor, 1) := by decide +kernel
theorem dX4_makeHalf_124 : decode cX4_makeHalf 124 = .ok (.land, 1) := by decide +kernel
theorem dX4_makeHalf_125 : decode cX4_makeHalf 125 = .ok (.lstore 8, 2) := by decide +kernel
theorem dX4_makeHalf_127 : decode cX4_makeHalf 127 = .ok (.aload_n 0, 1) := by decide +kernel
theorem dX4_makeHalf_128 : decode cX4_makeHalf 128 = .ok (.getfield 47, 3) := by decide +kernel
theorem dX4_makeHalf_131 : decode cX4_makeHalf 131 = .ok (.iconst 4, 1) := by decide +kernel
theorem dX4_makeHalf_132 : decode cX4_makeHalf 132 = .ok (.iload_n 1, 1) := by decide +kernel
theorem dX4_makeHalf_133 : decode cX4_makeHalf 133 = .ok (.imul, 1) := by decide +kernel
theorem dX4_makeHalf_134 : decode cX4_makeHalf 134 = .ok (.iload 6, 2) := by decide +kernel
theorem dX4_makeHalf_136 : decode cX4_makeHalf 136 = .ok (.iadd, 1) := by decide +kernel
theorem dX4_makeHalf_137 : decode cX4_makeHalf 137 = .ok (.iload 4, 2) := by decide +kernel
theorem dX4_makeHalf_139 : decode cX4_makeHalf 139 = .ok (.ifCond .eq 14, 3) := by decide +kernel
theorem dX4_makeHalf_142 : decode cX4_makeHalf 142 = .ok (.lload 8, 2) := by decide +kernel
theorem dX4_makeHalf_144 : decode cX4_makeHalf 144 = .ok (.lload 8, 2) := by decide +kernel
theorem dX4_makeHalf_146 : decode cX4_makeHalf 146 = .ok (.iload 7, 2) := by decide +kernel
theorem dX4_makeHalf_148 : decode cX4_makeHalf 148 = .ok (.lushr, 1) := by decide +kernel
theorem dX4_makeHalf_149 : decode cX4_makeHalf 149 = .ok (.lor, 1) := by decide +kernel
theorem dX4_makeHalf_150 : decode cX4_makeHalf 150 = .ok (.goto 11, 3) := by decide +kernel
theorem dX4_makeHalf_153 : decode cX4_makeHalf 153 = .ok (.lload 8, 2) := by decide +kernel
theorem dX4_makeHalf_155 : decode cX4_makeHalf 155 = .ok (.lload 8, 2) := by decide +kernel
theorem dX4_makeHalf_157 : decode cX4_makeHalf 157 = .ok (.iload 7, 2) := by decide +kernel
theorem dX4_makeHalf_159 : decode cX4_makeHalf 159 = .ok (.lshl, 1) := by decide +kernel
theorem dX4_makeHalf_160 : decode cX4_makeHalf 160 = .ok (.lor, 1) := by decide +kernel
theorem dX4_makeHalf_161 : decode cX4_makeHalf 161 = .ok (.lastore, 1) := by decide +kernel
theorem dX4_makeHalf_162 : decode cX4_makeHalf 162 = .ok (.iinc 6 1, 3) := by decide +kernel
theorem dX4_makeHalf_165 : decode cX4_makeHalf 165 = .ok (.goto (-154), 3) := by decide +kernel
theorem dX4_makeHalf_168 : decode cX4_makeHalf 168 = .ok (.return_, 1) := by decide +kernel
theorem dX4_needs_0 : decode cX4_needs 0 = .ok (.iconst 0, 1) := by decide +kernel
theorem dX4_needs_1 : decode cX4_needs 1 = .ok (.istore_n 3, 1) := by decide +kernel
theorem dX4_needs_2 : decode cX4_needs 2 = .ok (.iload_n 3, 1) := by decide +kernel
theorem dX4_needs_3 : decode cX4_needs 3 = .ok (.bipush 40, 2) := by decide +kernel
theorem dX4_needs_5 : decode cX4_needs 5 = .ok (.if_icmp .ge 32, 3) := by decide +kernel
theorem dX4_needs_8 : decode cX4_needs 8 = .ok (.aload_n 0, 1) := by decide +kernel
theorem dX4_needs_9 : decode cX4_needs 9 = .ok (.getfield 93, 3) := by decide +kernel
theorem dX4_needs_12 : decode cX4_needs 12 = .ok (.iload_n 3, 1) := by decide +kernel
theorem dX4_needs_13 : decode cX4_needs 13 = .ok (.iload_n 3, 1) := by decide +kernel
theorem dX4_needs_14 : decode cX4_needs 14 = .ok (.iload_n 2, 1) := by decide +kernel
theorem dX4_needs_15 : decode cX4_needs 15 = .ok (.if_icmp .ne 7, 3) := by decide +kernel
theorem dX4_needs_18 : decode cX4_needs 18 = .ok (.iconst 1, 1) := by decide +kernel
theorem dX4_needs_19 : decode cX4_needs 19 = .ok (.goto 4, 3) := by decide +kernel
theorem dX4_needs_22 : decode cX4_needs 22 = .ok (.iconst 0, 1) := by decide +kernel
theorem dX4_needs_23 : decode cX4_needs 23 = .ok (.bastore, 1) := by decide +kernel
theorem dX4_needs_24 : decode cX4_needs 24 = .ok (.aload_n 0, 1) := by decide +kernel
theorem dX4_needs_25 : decode cX4_needs 25 = .ok (.getfield 96, 3) := by decide +kernel
theorem dX4_needs_28 : decode cX4_needs 28 = .ok (.iload_n 3, 1) := by decide +kernel
theorem dX4_needs_29 : decode cX4_needs 29 = .ok (.iconst (-1), 1) := by decide +kernel
theorem dX4_needs_30 : decode cX4_needs 30 = .ok (.iastore, 1) := by decide +kernel
theorem dX4_needs_31 : decode cX4_needs 31 = .ok (.iinc 3 1, 3) := by decide +kernel
theorem dX4_needs_34 : decode cX4_needs 34 = .ok (.goto (-32), 3) := by decide +kernel
theorem dX4_needs_37 : decode cX4_needs 37 = .ok (.iload_n 2, 1) := by decide +kernel
theorem dX4_needs_38 : decode cX4_needs 38 = .ok (.istore_n 3, 1) := by decide +kernel
theorem dX4_needs_39 : decode cX4_needs 39 = .ok (.iload_n 3, 1) := by decide +kernel
theorem dX4_needs_40 : decode cX4_needs 40 = .ok (.ifCond .lt 100, 3) := by decide +kernel
theorem dX4_needs_43 : decode cX4_needs 43 = .ok (.bipush 40, 2) := by decide +kernel
theorem dX4_needs_45 : decode cX4_needs 45 = .ok (.iload_n 1, 1) := by decide +kernel
theorem dX4_needs_46 : decode cX4_needs 46 = .ok (.imul, 1) := by decide +kernel
theorem dX4_needs_47 : decode cX4_needs 47 = .ok (.iload_n 3, 1) := by decide +kernel
theorem dX4_needs_48 : decode cX4_needs 48 = .ok (.iadd, 1) := by decide +kernel
theorem dX4_needs_49 : decode cX4_needs 49 = .ok (.istore 4, 2) := by decide +kernel
theorem dX4_needs_51 : decode cX4_needs 51 = .ok (.iconst 0, 1) := by decide +kernel
theorem dX4_needs_52 : decode cX4_needs 52 = .ok (.istore 5, 2) := by decide +kernel
theorem dX4_needs_54 : decode cX4_needs 54 = .ok (.iload 5, 2) := by decide +kernel
theorem dX4_needs_56 : decode cX4_needs 56 = .ok (.aload_n 0, 1) := by decide +kernel
theorem dX4_needs_57 : decode cX4_needs 57 = .ok (.getfield 16, 3) := by decide +kernel
theorem dX4_needs_60 : decode cX4_needs 60 = .ok (.iload 4, 2) := by decide +kernel
theorem dX4_needs_62 : decode cX4_needs 62 = .ok (.iaload, 1) := by decide +kernel
theorem dX4_needs_63 : decode cX4_needs 63 = .ok (.invokestatic 120, 3) := by decide +kernel
theorem dX4_needs_66 : decode cX4_needs 66 = .ok (.if_icmp .ge 68, 3) := by decide +kernel
theorem dX4_needs_69 : decode cX4_needs 69 = .ok (.aload_n 0, 1) := by decide +kernel
theorem dX4_needs_70 : decode cX4_needs 70 = .ok (.getfield 93, 3) := by decide +kernel
theorem dX4_needs_73 : decode cX4_needs 73 = .ok (.iload_n 3, 1) := by decide +kernel
theorem dX4_needs_74 : decode cX4_needs 74 = .ok (.baload, 1) := by decide +kernel
theorem dX4_needs_75 : decode cX4_needs 75 = .ok (.ifCond .eq 59, 3) := by decide +kernel
theorem dX4_needs_78 : decode cX4_needs 78 = .ok (.aload_n 0, 1) := by decide +kernel
theorem dX4_needs_79 : decode cX4_needs 79 = .ok (.getfield 19, 3) := by decide +kernel
theorem dX4_needs_82 : decode cX4_needs 82 = .ok (.iconst 3, 1) := by decide +kernel
theorem dX4_needs_83 : decode cX4_needs 83 = .ok (.iload 4, 2) := by decide +kernel
theorem dX4_needs_85 : decode cX4_needs 85 = .ok (.imul, 1) := by decide +kernel
theorem dX4_needs_86 : decode cX4_needs 86 = .ok (.iload 5, 2) := by decide +kernel
theorem dX4_needs_88 : decode cX4_needs 88 = .ok (.iadd, 1) := by decide +kernel
theorem dX4_needs_89 : decode cX4_needs 89 = .ok (.iaload, 1) := by decide +kernel
theorem dX4_needs_90 : decode cX4_needs 90 = .ok (.istore 6, 2) := by decide +kernel
theorem dX4_needs_92 : decode cX4_needs 92 = .ok (.aload_n 0, 1) := by decide +kernel
theorem dX4_needs_93 : decode cX4_needs 93 = .ok (.getfield 93, 3) := by decide +kernel
theorem dX4_needs_96 : decode cX4_needs 96 = .ok (.iload 6, 2) := by decide +kernel
theorem dX4_needs_98 : decode cX4_needs 98 = .ok (.iconst 1, 1) := by decide +kernel
theorem dX4_needs_99 : decode cX4_needs 99 = .ok (.bastore, 1) := by decide +kernel
theorem dX4_needs_100 : decode cX4_needs 100 = .ok (.aload_n 0, 1) := by decide +kernel
theorem dX4_needs_101 : decode cX4_needs 101 = .ok (.getfield 96, 3) := by decide +kernel
theorem dX4_needs_104 : decode cX4_needs 104 = .ok (.iload 6, 2) := by decide +kernel
theorem dX4_needs_106 : decode cX4_needs 106 = .ok (.aload_n 0, 1) := by decide +kernel
theorem dX4_needs_107 : decode cX4_needs 107 = .ok (.getfield 96, 3) := by decide +kernel
theorem dX4_needs_110 : decode cX4_needs 110 = .ok (.iload 6, 2) := by decide +kernel
theorem dX4_needs_112 : decode cX4_needs 112 = .ok (.iaload, 1) := by decide +kernel
theorem dX4_needs_113 : decode cX4_needs 113 = .ok (.ifCond .ge 7, 3) := by decide +kernel
theorem dX4_needs_116 : decode cX4_needs 116 = .ok (.iload_n 3, 1) := by decide +kernel
theorem dX4_needs_117 : decode cX4_needs 117 = .ok (.goto 10, 3) := by decide +kernel
theorem dX4_needs_120 : decode cX4_needs 120 = .ok (.aload_n 0, 1) := by decide +kernel
theorem dX4_needs_121 : decode cX4_needs 121 = .ok (.getfield 96, 3) := by decide +kernel
theorem dX4_needs_124 : decode cX4_needs 124 = .ok (.iload 6, 2) := by decide +kernel
theorem dX4_needs_126 : decode cX4_needs 126 = .ok (.iaload, 1) := by decide +kernel
theorem dX4_needs_127 : decode cX4_needs 127 = .ok (.iastore, 1) := by decide +kernel
theorem dX4_needs_128 : decode cX4_needs 128 = .ok (.iinc 5 1, 3) := by decide +kernel
theorem dX4_needs_131 : decode cX4_needs 131 = .ok (.goto (-77), 3) := by decide +kernel
theorem dX4_needs_134 : decode cX4_needs 134 = .ok (.iinc 3 (-1), 3) := by decide +kernel
theorem dX4_needs_137 : decode cX4_needs 137 = .ok (.goto (-98), 3) := by decide +kernel
theorem dX4_needs_140 : decode cX4_needs 140 = .ok (.return_, 1) := by decide +kernel
theorem dX4_builds_0 : decode cX4_builds 0 = .ok (.aload_n 0, 1) := by decide +kernel
theorem dX4_builds_1 : decode cX4_builds 1 = .ok (.iload_n 1, 1) := by decide +kernel
theorem dX4_builds_2 : decode cX4_builds 2 = .ok (.iload_n 2, 1) := by decide +kernel
theorem dX4_builds_3 : decode cX4_builds 3 = .ok (.invokevirtual 194, 3) := by decide +kernel
theorem dX4_builds_6 : decode cX4_builds 6 = .ok (.iconst 0, 1) := by decide +kernel
theorem dX4_builds_7 : decode cX4_builds 7 = .ok (.istore_n 3, 1) := by decide +kernel
theorem dX4_builds_8 : decode cX4_builds 8 = .ok (.iload_n 3, 1) := by decide +kernel
theorem dX4_builds_9 : decode cX4_builds 9 = .ok (.iload_n 2, 1) := by decide +kernel
theorem dX4_builds_10 : decode cX4_builds 10 = .ok (.if_icmp .gt 249, 3) := by decide +kernel
theorem dX4_builds_13 : decode cX4_builds 13 = .ok (.aload_n 0, 1) := by decide +kernel
theorem dX4_builds_14 : decode cX4_builds 14 = .ok (.getfield 93, 3) := by decide +kernel
theorem dX4_builds_17 : decode cX4_builds 17 = .ok (.iload_n 3, 1) := by decide +kernel
theorem dX4_builds_18 : decode cX4_builds 18 = .ok (.baload, 1) := by decide +kernel
theorem dX4_builds_19 : decode cX4_builds 19 = .ok (.ifCond .ne 6, 3) := by decide +kernel
theorem dX4_builds_22 : decode cX4_builds 22 = .ok (.goto 231, 3) := by decide +kernel
theorem dX4_builds_25 : decode cX4_builds 25 = .ok (.bipush 40, 2) := by decide +kernel
theorem dX4_builds_27 : decode cX4_builds 27 = .ok (.iload_n 1, 1) := by decide +kernel
theorem dX4_builds_28 : decode cX4_builds 28 = .ok (.imul, 1) := by decide +kernel
theorem dX4_builds_29 : decode cX4_builds 29 = .ok (.iload_n 3, 1) := by decide +kernel
theorem dX4_builds_30 : decode cX4_builds 30 = .ok (.iadd, 1) := by decide +kernel
theorem dX4_builds_31 : decode cX4_builds 31 = .ok (.istore 4, 2) := by decide +kernel
theorem dX4_builds_33 : decode cX4_builds 33 = .ok (.bipush 12, 2) := by decide +kernel
theorem dX4_builds_35 : decode cX4_builds 35 = .ok (.iload_n 3, 1) := by decide +kernel
theorem dX4_builds_36 : decode cX4_builds 36 = .ok (.iadd, 1) := by decide +kernel
theorem dX4_builds_37 : decode cX4_builds 37 = .ok (.istore 5, 2) := by decide +kernel
theorem dX4_builds_39 : decode cX4_builds 39 = .ok (.aload_n 0, 1) := by decide +kernel
theorem dX4_builds_40 : decode cX4_builds 40 = .ok (.getfield 16, 3) := by decide +kernel
theorem dX4_builds_43 : decode cX4_builds 43 = .ok (.iload 4, 2) := by decide +kernel
theorem dX4_builds_45 : decode cX4_builds 45 = .ok (.iaload, 1) := by decide +kernel
theorem dX4_builds_46 : decode cX4_builds 46 = .ok (.ifCond .ne 21, 3) := by decide +kernel
theorem dX4_builds_49 : decode cX4_builds 49 = .ok (.aload_n 0, 1) := by decide +kernel
theorem dX4_builds_50 : decode cX4_builds 50 = .ok (.iload 5, 2) := by decide +kernel
theorem dX4_builds_52 : decode cX4_builds 52 = .ok (.aload_n 0, 1) := by decide +kernel
theorem dX4_builds_53 : decode cX4_builds 53 = .ok (.getfield 19, 3) := by decide +kernel
theorem dX4_builds_56 : decode cX4_builds 56 = .ok (.iconst 3, 1) := by decide +kernel
theorem dX4_builds_57 : decode cX4_builds 57 = .ok (.iload 4, 2) := by decide +kernel
theorem dX4_builds_59 : decode cX4_builds 59 = .ok (.imul, 1) := by decide +kernel
theorem dX4_builds_60 : decode cX4_builds 60 = .ok (.iaload, 1) := by decide +kernel
theorem dX4_builds_61 : decode cX4_builds 61 = .ok (.invokevirtual 197, 3) := by decide +kernel
theorem dX4_builds_64 : decode cX4_builds 64 = .ok (.goto 133, 3) := by decide +kernel
theorem dX4_builds_67 : decode cX4_builds 67 = .ok (.aload_n 0, 1) := by decide +kernel
theorem dX4_builds_68 : decode cX4_builds 68 = .ok (.getfield 16, 3) := by decide +kernel
theorem dX4_builds_71 : decode cX4_builds 71 = .ok (.iload 4, 2) := by decide +kernel
theorem dX4_builds_73 : decode cX4_builds 73 = .ok (.iaload, 1) := by decide +kernel
theorem dX4_builds_74 : decode cX4_builds 74 = .ok (.bipush 10, 2) := by decide +kernel
theorem dX4_builds_76 : decode cX4_builds 76 = .ok (.if_icmp .ne 52, 3) := by decide +kernel
theorem dX4_builds_79 : decode cX4_builds 79 = .ok (.aload_n 0, 1) := by decide +kernel
theorem dX4_builds_80 : decode cX4_builds 80 = .ok (.iload 5, 2) := by decide +kernel
theorem dX4_builds_82 : decode cX4_builds 82 = .ok (.bipush 12, 2) := by decide +kernel
theorem dX4_builds_84 : decode cX4_builds 84 = .ok (.aload_n 0, 1) := by decide +kernel
theorem dX4_builds_85 : decode cX4_builds 85 = .ok (.getfield 19, 3) := by decide +kernel
theorem dX4_builds_88 : decode cX4_builds 88 = .ok (.iconst 3, 1) := by decide +kernel
theorem dX4_builds_89 : decode cX4_builds 89 = .ok (.iload 4, 2) := by decide +kernel
theorem dX4_builds_91 : decode cX4_builds 91 = .ok (.imul, 1) := by decide +kernel
theorem dX4_builds_92 : decode cX4_builds 92 = .ok (.iaload, 1) := by decide +kernel
theorem dX4_builds_93 : decode cX4_builds 93 = .ok (.iadd, 1) := by decide +kernel
theorem dX4_builds_94 : decode cX4_builds 94 = .ok (.bipush 12, 2) := by decide +kernel
theorem dX4_builds_96 : decode cX4_builds 96 = .ok (.aload_n 0, 1) := by decide +kernel
theorem dX4_builds_97 : decode cX4_builds 97 = .ok (.getfield 19, 3) := by decide +kernel
theorem dX4_builds_100 : decode cX4_builds 100 = .ok (.iconst 3, 1) := by decide +kernel
theorem dX4_builds_101 : decode cX4_builds 101 = .ok (.iload 4, 2) := by decide +kernel
theorem dX4_builds_103 : decode cX4_builds 103 = .ok (.imul, 1) := by decide +kernel
theorem dX4_builds_104 : decode cX4_builds 104 = .ok (.iconst 1, 1) := by decide +kernel
theorem dX4_builds_105 : decode cX4_builds 105 = .ok (.iadd, 1) := by decide +kernel
theorem dX4_builds_106 : decode cX4_builds 106 = .ok (.iaload, 1) := by decide +kernel
theorem dX4_builds_107 : decode cX4_builds 107 = .ok (.iadd, 1) := by decide +kernel
theorem dX4_builds_108 : decode cX4_builds 108 = .ok (.bipush 12, 2) := by decide +kernel
theorem dX4_builds_110 : decode cX4_builds 110 = .ok (.aload_n 0, 1) := by decide +kernel
theorem dX4_builds_111 : decode cX4_builds 111 = .ok (.getfield 19, 3) := by decide +kernel
theorem dX4_builds_114 : decode cX4_builds 114 = .ok (.iconst 3, 1) := by decide +kernel
theorem dX4_builds_115 : decode cX4_builds 115 = .ok (.iload 4, 2) := by decide +kernel
theorem dX4_builds_117 : decode cX4_builds 117 = .ok (.imul, 1) := by decide +kernel
theorem dX4_builds_118 : decode cX4_builds 118 = .ok (.iconst 2, 1) := by decide +kernel
theorem dX4_builds_119 : decode cX4_builds 119 = .ok (.iadd, 1) := by decide +kernel
theorem dX4_builds_120 : decode cX4_builds 120 = .ok (.iaload, 1) := by decide +kernel
theorem dX4_builds_121 : decode cX4_builds 121 = .ok (.iadd, 1) := by decide +kernel
theorem dX4_builds_122 : decode cX4_builds 122 = .ok (.invokevirtual 200, 3) := by decide +kernel
theorem dX4_builds_125 : decode cX4_builds 125 = .ok (.goto 72, 3) := by decide +kernel
theorem dX4_builds_128 : decode cX4_builds 128 = .ok (.aload_n 0, 1) := by decide +kernel
theorem dX4_builds_129 : decode cX4_builds 129 = .ok (.iload 5, 2) := by decide +kernel
theorem dX4_builds_131 : decode cX4_builds 131 = .ok (.aload_n 0, 1) := by decide +kernel
theorem dX4_builds_132 : decode cX4_builds 132 = .ok (.getfield 16, 3) := by decide +kernel
theorem dX4_builds_135 : decode cX4_builds 135 = .ok (.iload 4, 2) := by decide +kernel
theorem dX4_builds_137 : decode cX4_builds 137 = .ok (.iaload, 1) := by decide +kernel
theorem dX4_builds_138 : decode cX4_builds 138 = .ok (.bipush 12, 2) := by decide +kernel
theorem dX4_builds_140 : decode cX4_builds 140 = .ok (.aload_n 0, 1) := by decide +kernel
theorem dX4_builds_141 : decode cX4_builds 141 = .ok (.getfield 16, 3) := by decide +kernel
theorem dX4_builds_144 : decode cX4_builds 144 = .ok (.iload 4, 2) := by decide +kernel
theorem dX4_builds_146 : decode cX4_builds 146 = .ok (.iaload, 1) := by decide +kernel
theorem dX4_builds_147 : decode cX4_builds 147 = .ok (.iconst 2, 1) := by decide +kernel
theorem dX4_builds_148 : decode cX4_builds 148 = .ok (.if_icmp .le 15, 3) := by decide +kernel
theorem dX4_builds_151 : decode cX4_builds 151 = .ok (.aload_n 0, 1) := by decide +kernel
theorem dX4_builds_152 : decode cX4_builds 152 = .ok (.getfield 19, 3) := by decide +kernel
theorem dX4_builds_155 : decode cX4_builds 155 = .ok (.iconst 3, 1) := by decide +kernel
theorem dX4_builds_156 : decode cX4_builds 156 = .ok (.iload 4, 2) := by decide +kernel
theorem dX4_builds_158 : decode cX4_builds 158 = .ok (.imul, 1) := by decide +kernel
theorem dX4_builds_159 : decode cX4_builds 159 = .ok (.iaload, 1) := by decide +kernel
theorem dX4_builds_160 : decode cX4_builds 160 = .ok (.goto 4, 3) := by decide +kernel
theorem dX4_builds_163 : decode cX4_builds 163 = .ok (.iconst 0, 1) := by decide +kernel
theorem dX4_builds_164 : decode cX4_builds 164 = .ok (.iadd, 1) := by decide +kernel
theorem dX4_builds_165 : decode cX4_builds 165 = .ok (.bipush 12, 2) := by decide +kernel
theorem dX4_builds_167 : decode cX4_builds 167 = .ok (.aload_n 0, 1) := by decide +kernel
theorem dX4_builds_168 : decode cX4_builds 168 = .ok (.getfield 16, 3) := by decide +kernel
theorem dX4_builds_171 : decode cX4_builds 171 = .ok (.iload 4, 2) := by decide +kernel
theorem dX4_builds_173 : decode cX4_builds 173 = .ok (.iaload, 1) := by decide +kernel
theorem dX4_builds_174 : decode cX4_builds 174 = .ok (.iconst 3, 1) := by decide +kernel
theorem dX4_builds_175 : decode cX4_builds 175 = .ok (.if_icmp .le 17, 3) := by decide +kernel
theorem dX4_builds_178 : decode cX4_builds 178 = .ok (.aload_n 0, 1) := by decide +kernel
theorem dX4_builds_179 : decode cX4_builds 179 = .ok (.getfield 19, 3) := by decide +kernel
theorem dX4_builds_182 : decode cX4_builds 182 = .ok (.iconst 3, 1) := by decide +kernel
theorem dX4_builds_183 : decode cX4_builds 183 = .ok (.iload 4, 2) := by decide +kernel
theorem dX4_builds_185 : decode cX4_builds 185 = .ok (.imul, 1) := by decide +kernel
theorem dX4_builds_186 : decode cX4_builds 186 = .ok (.iconst 1, 1) := by decide +kernel
theorem dX4_builds_187 : decode cX4_builds 187 = .ok (.iadd, 1) := by decide +kernel
theorem dX4_builds_188 : decode cX4_builds 188 = .ok (.iaload, 1) := by decide +kernel
theorem dX4_builds_189 : decode cX4_builds 189 = .ok (.goto 4, 3) := by decide +kernel
theorem dX4_builds_192 : decode cX4_builds 192 = .ok (.iconst 0, 1) := by decide +kernel
theorem dX4_builds_193 : decode cX4_builds 193 = .ok (.iadd, 1) := by decide +kernel
theorem dX4_builds_194 : decode cX4_builds 194 = .ok (.invokevirtual 204, 3) := by decide +kernel
theorem dX4_builds_197 : decode cX4_builds 197 = .ok (.aload_n 0, 1) := by decide +kernel
theorem dX4_builds_198 : decode cX4_builds 198 = .ok (.iload 5, 2) := by decide +kernel
theorem dX4_builds_200 : decode cX4_builds 200 = .ok (.invokevirtual 207, 3) := by decide +kernel
theorem dX4_builds_203 : decode cX4_builds 203 = .ok (.ifCond .ne 5, 3) := by decide +kernel
theorem dX4_builds_206 : decode cX4_builds 206 = .ok (.iconst 0, 1) := by decide +kernel
theorem dX4_builds_207 : decode cX4_builds 207 = .ok (.ireturn, 1) := by decide +kernel
theorem dX4_builds_208 : decode cX4_builds 208 = .ok (.iconst 0, 1) := by decide +kernel
theorem dX4_builds_209 : decode cX4_builds 209 = .ok (.istore 6, 2) := by decide +kernel
theorem dX4_builds_211 : decode cX4_builds 211 = .ok (.iload 6, 2) := by decide +kernel
theorem dX4_builds_213 : decode cX4_builds 213 = .ok (.iload_n 3, 1) := by decide +kernel
theorem dX4_builds_214 : decode cX4_builds 214 = .ok (.if_icmp .ge 39, 3) := by decide +kernel
theorem dX4_builds_217 : decode cX4_builds 217 = .ok (.aload_n 0, 1) := by decide +kernel
theorem dX4_builds_218 : decode cX4_builds 218 = .ok (.getfield 93, 3) := by decide +kernel
theorem dX4_builds_221 : decode cX4_builds 221 = .ok (.iload 6, 2) := by decide +kernel
theorem dX4_builds_223 : decode cX4_builds 223 = .ok (.baload, 1) := by decide +kernel
theorem dX4_builds_224 : decode cX4_builds 224 = .ok (.ifCond .eq 23, 3) := by decide +kernel
theorem dX4_builds_227 : decode cX4_builds 227 = .ok (.aload_n 0, 1) := by decide +kernel
theorem dX4_builds_228 : decode cX4_builds 228 = .ok (.getfield 96, 3) := by decide +kernel
theorem dX4_builds_231 : decode cX4_builds 231 = .ok (.iload 6, 2) := by decide +kernel
theorem dX4_builds_233 : decode cX4_builds 233 = .ok (.iaload, 1) := by decide +kernel
theorem dX4_builds_234 : decode cX4_builds 234 = .ok (.iload_n 3, 1) := by decide +kernel
theorem dX4_builds_235 : decode cX4_builds 235 = .ok (.if_icmp .ne 12, 3) := by decide +kernel
theorem dX4_builds_238 : decode cX4_builds 238 = .ok (.aload_n 0, 1) := by decide +kernel
theorem dX4_builds_239 : decode cX4_builds 239 = .ok (.bipush 12, 2) := by decide +kernel
theorem dX4_builds_241 : decode cX4_builds 241 = .ok (.iload 6, 2) := by decide +kernel
theorem dX4_builds_243 : decode cX4_builds 243 = .ok (.iadd, 1) := by decide +kernel
theorem dX4_builds_244 : decode cX4_builds 244 = .ok (.invokevirtual 179, 3) := by decide +kernel
theorem dX4_builds_247 : decode cX4_builds 247 = .ok (.iinc 6 1, 3) := by decide +kernel
theorem dX4_builds_250 : decode cX4_builds 250 = .ok (.goto (-39), 3) := by decide +kernel
theorem dX4_builds_253 : decode cX4_builds 253 = .ok (.iinc 3 1, 3) := by decide +kernel
theorem dX4_builds_256 : decode cX4_builds 256 = .ok (.goto (-248), 3) := by decide +kernel
theorem dX4_builds_259 : decode cX4_builds 259 = .ok (.iconst 1, 1) := by decide +kernel
theorem dX4_builds_260 : decode cX4_builds 260 = .ok (.ireturn, 1) := by decide +kernel
theorem dX4_isHandle_0 : decode cX4_isHandle 0 = .ok (.iload_n 0, 1) := by decide +kernel
theorem dX4_isHandle_1 : decode cX4_isHandle 1 = .ok (.iconst 0, 1) := by decide +kernel
theorem dX4_isHandle_2 : decode cX4_isHandle 2 = .ok (.bipush 11, 2) := by decide +kernel
theorem dX4_isHandle_4 : decode cX4_isHandle 4 = .ok (.invokestatic 112, 3) := by decide +kernel
theorem dX4_isHandle_7 : decode cX4_isHandle 7 = .ok (.ireturn, 1) := by decide +kernel
theorem dX4_isFunction_0 : decode cX4_isFunction 0 = .ok (.iload_n 1, 1) := by decide +kernel
theorem dX4_isFunction_1 : decode cX4_isFunction 1 = .ok (.invokestatic 210, 3) := by decide +kernel
theorem dX4_isFunction_4 : decode cX4_isFunction 4 = .ok (.ifCond .eq 16, 3) := by decide +kernel
theorem dX4_isFunction_7 : decode cX4_isFunction 7 = .ok (.aload_n 0, 1) := by decide +kernel
theorem dX4_isFunction_8 : decode cX4_isFunction 8 = .ok (.getfield 44, 3) := by decide +kernel
theorem dX4_isFunction_11 : decode cX4_isFunction 11 = .ok (.iload_n 1, 1) := by decide +kernel
theorem dX4_isFunction_12 : decode cX4_isFunction 12 = .ok (.baload, 1) := by decide +kernel
theorem dX4_isFunction_13 : decode cX4_isFunction 13 = .ok (.ifCond .eq 7, 3) := by decide +kernel
theorem dX4_isFunction_16 : decode cX4_isFunction 16 = .ok (.iconst 1, 1) := by decide +kernel
theorem dX4_isFunction_17 : decode cX4_isFunction 17 = .ok (.goto 4, 3) := by decide +kernel
theorem dX4_isFunction_20 : decode cX4_isFunction 20 = .ok (.iconst 0, 1) := by decide +kernel
theorem dX4_isFunction_21 : decode cX4_isFunction 21 = .ok (.ireturn, 1) := by decide +kernel
theorem dX4_begin_0 : decode cX4_begin 0 = .ok (.aload_n 0, 1) := by decide +kernel
theorem dX4_begin_1 : decode cX4_begin 1 = .ok (.iconst 0, 1) := by decide +kernel
theorem dX4_begin_2 : decode cX4_begin 2 = .ok (.putfield 176, 3) := by decide +kernel
theorem dX4_begin_5 : decode cX4_begin 5 = .ok (.return_, 1) := by decide +kernel
theorem dX4_build_0 : decode cX4_build 0 = .ok (.iload_n 1, 1) := by decide +kernel
theorem dX4_build_1 : decode cX4_build 1 = .ok (.invokestatic 210, 3) := by decide +kernel
theorem dX4_build_4 : decode cX4_build 4 = .ok (.ifCond .eq 12, 3) := by decide +kernel
theorem dX4_build_7 : decode cX4_build 7 = .ok (.aload_n 0, 1) := by decide +kernel
theorem dX4_build_8 : decode cX4_build 8 = .ok (.iload_n 2, 1) := by decide +kernel
theorem dX4_build_9 : decode cX4_build 9 = .ok (.iload_n 3, 1) := by decide +kernel
theorem dX4_build_10 : decode cX4_build 10 = .ok (.invokevirtual 128, 3) := by decide +kernel
theorem dX4_build_13 : decode cX4_build 13 = .ok (.ifCond .ne 5, 3) := by decide +kernel
theorem dX4_build_16 : decode cX4_build 16 = .ok (.iconst (-1), 1) := by decide +kernel
theorem dX4_build_17 : decode cX4_build 17 = .ok (.ireturn, 1) := by decide +kernel
theorem dX4_build_18 : decode cX4_build 18 = .ok (.aload_n 0, 1) := by decide +kernel
theorem dX4_build_19 : decode cX4_build 19 = .ok (.invokevirtual 213, 3) := by decide +kernel
theorem dX4_build_22 : decode cX4_build 22 = .ok (.aload_n 0, 1) := by decide +kernel
theorem dX4_build_23 : decode cX4_build 23 = .ok (.getfield 22, 3) := by decide +kernel
theorem dX4_build_26 : decode cX4_build 26 = .ok (.iconst 4, 1) := by decide +kernel
theorem dX4_build_27 : decode cX4_build 27 = .ok (.iload_n 2, 1) := by decide +kernel
theorem dX4_build_28 : decode cX4_build 28 = .ok (.imul, 1) := by decide +kernel
theorem dX4_build_29 : decode cX4_build 29 = .ok (.iload_n 3, 1) := by decide +kernel
theorem dX4_build_30 : decode cX4_build 30 = .ok (.iadd, 1) := by decide +kernel
theorem dX4_build_31 : decode cX4_build 31 = .ok (.iaload, 1) := by decide +kernel
theorem dX4_build_32 : decode cX4_build 32 = .ok (.istore 4, 2) := by decide +kernel
theorem dX4_build_34 : decode cX4_build 34 = .ok (.aload_n 0, 1) := by decide +kernel
theorem dX4_build_35 : decode cX4_build 35 = .ok (.iload_n 1, 1) := by decide +kernel
theorem dX4_build_36 : decode cX4_build 36 = .ok (.bipush 12, 2) := by decide +kernel
theorem dX4_build_38 : decode cX4_build 38 = .ok (.iload 4, 2) := by decide +kernel
theorem dX4_build_40 : decode cX4_build 40 = .ok (.iadd, 1) := by decide +kernel
theorem dX4_build_41 : decode cX4_build 41 = .ok (.aload_n 0, 1) := by decide +kernel
theorem dX4_build_42 : decode cX4_build 42 = .ok (.iload_n 2, 1) := by decide +kernel
theorem dX4_build_43 : decode cX4_build 43 = .ok (.iload 4, 2) := by decide +kernel
theorem dX4_build_45 : decode cX4_build 45 = .ok (.invokevirtual 216, 3) := by decide +kernel
theorem dX4_build_48 : decode cX4_build 48 = .ok (.invokevirtual 219, 3) := by decide +kernel
theorem dX4_build_51 : decode cX4_build 51 = .ok (.ireturn, 1) := by decide +kernel
theorem dX4_variable_0 : decode cX4_variable 0 = .ok (.iload_n 1, 1) := by decide +kernel
theorem dX4_variable_1 : decode cX4_variable 1 = .ok (.invokestatic 210, 3) := by decide +kernel
theorem dX4_variable_4 : decode cX4_variable 4 = .ok (.ifCond .ne 5, 3) := by decide +kernel
theorem dX4_variable_7 : decode cX4_variable 7 = .ok (.iconst (-1), 1) := by decide +kernel
theorem dX4_variable_8 : decode cX4_variable 8 = .ok (.ireturn, 1) := by decide +kernel
theorem dX4_variable_9 : decode cX4_variable 9 = .ok (.iload_n 2, 1) := by decide +kernel
theorem dX4_variable_10 : decode cX4_variable 10 = .ok (.iconst 0, 1) := by decide +kernel
theorem dX4_variable_11 : decode cX4_variable 11 = .ok (.bipush 7, 2) := by decide +kernel
theorem dX4_variable_13 : decode cX4_variable 13 = .ok (.invokestatic 112, 3) := by decide +kernel
theorem dX4_variable_16 : decode cX4_variable 16 = .ok (.ifCond .ne 6, 3) := by decide +kernel
theorem dX4_variable_19 : decode cX4_variable 19 = .ok (.bipush (-2), 2) := by decide +kernel
theorem dX4_variable_21 : decode cX4_variable 21 = .ok (.ireturn, 1) := by decide +kernel
theorem dX4_variable_22 : decode cX4_variable 22 = .ok (.aload_n 0, 1) := by decide +kernel
theorem dX4_variable_23 : decode cX4_variable 23 = .ok (.invokevirtual 213, 3) := by decide +kernel
theorem dX4_variable_26 : decode cX4_variable 26 = .ok (.aload_n 0, 1) := by decide +kernel
theorem dX4_variable_27 : decode cX4_variable 27 = .ok (.bipush 55, 2) := by decide +kernel
theorem dX4_variable_29 : decode cX4_variable 29 = .ok (.iload_n 2, 1) := by decide +kernel
theorem dX4_variable_30 : decode cX4_variable 30 = .ok (.invokevirtual 197, 3) := by decide +kernel
theorem dX4_variable_33 : decode cX4_variable 33 = .ok (.aload_n 0, 1) := by decide +kernel
theorem dX4_variable_34 : decode cX4_variable 34 = .ok (.iload_n 1, 1) := by decide +kernel
theorem dX4_variable_35 : decode cX4_variable 35 = .ok (.bipush 55, 2) := by decide +kernel
theorem dX4_variable_37 : decode cX4_variable 37 = .ok (.aload_n 0, 1) := by decide +kernel
theorem dX4_variable_38 : decode cX4_variable 38 = .ok (.bipush 55, 2) := by decide +kernel
theorem dX4_variable_40 : decode cX4_variable 40 = .ok (.invokevirtual 207, 3) := by decide +kernel
theorem dX4_variable_43 : decode cX4_variable 43 = .ok (.invokevirtual 219, 3) := by decide +kernel
theorem dX4_variable_46 : decode cX4_variable 46 = .ok (.ireturn, 1) := by decide +kernel
theorem dX4_combine_0 : decode cX4_combine 0 = .ok (.iload_n 1, 1) := by decide +kernel
theorem dX4_combine_1 : decode cX4_combine 1 = .ok (.invokestatic 210, 3) := by decide +kernel
theorem dX4_combine_4 : decode cX4_combine 4 = .ok (.ifCond .eq 35, 3) := by decide +kernel
theorem dX4_combine_7 : decode cX4_combine 7 = .ok (.iload_n 2, 1) := by decide +kernel
theorem dX4_combine_8 : decode cX4_combine 8 = .ok (.iconst 3, 1) := by decide +kernel
theorem dX4_combine_9 : decode cX4_combine 9 = .ok (.bipush 9, 2) := by decide +kernel
theorem dX4_combine_11 : decode cX4_combine 11 = .ok (.invokestatic 112, 3) := by decide +kernel
theorem dX4_combine_14 : decode cX4_combine 14 = .ok (.ifCond .eq 27, 3) := by decide +kernel
theorem dX4_combine_17 : decode cX4_combine 17 = .ok (.aload_n 0, 1) := by decide +kernel
theorem dX4_combine_18 : decode cX4_combine 18 = .ok (.iload_n 3, 1) := by decide +kernel
theorem dX4_combine_19 : decode cX4_combine 19 = .ok (.invokevirtual 223, 3) := by decide +kernel
theorem dX4_combine_22 : decode cX4_combine 22 = .ok (.ifCond .eq 17, 3) := by decide +kernel
theorem dX4_combine_25 : decode cX4_combine 25 = .ok (.iload_n 2, 1) := by decide +kernel
theorem dX4_combine_26 : decode cX4_combine 26 = .ok (.iconst 3, 1) := by decide +kernel
theorem dX4_combine_27 : decode cX4_combine 27 = .ok (.if_icmp .eq 14, 3) := by decide +kernel
theorem dX4_combine_30 : decode cX4_combine 30 = .ok (.aload_n 0, 1) := by decide +kernel
theorem dX4_combine_31 : decode cX4_combine 31 = .ok (.iload 4, 2) := by decide +kernel
theorem dX4_combine_33 : decode cX4_combine 33 = .ok (.invokevirtual 223, 3) := by decide +kernel
theorem dX4_combine_36 : decode cX4_combine 36 = .ok (.ifCond .ne 5, 3) := by decide +kernel
theorem dX4_combine_39 : decode cX4_combine 39 = .ok (.iconst (-1), 1) := by decide +kernel
theorem dX4_combine_40 : decode cX4_combine 40 = .ok (.ireturn, 1) := by decide +kernel
theorem dX4_combine_41 : decode cX4_combine 41 = .ok (.iload_n 2, 1) := by decide +kernel
theorem dX4_combine_42 : decode cX4_combine 42 = .ok (.iconst 1, 1) := by decide +kernel
theorem dX4_combine_43 : decode cX4_combine 43 = .ok (.bipush 9, 2) := by decide +kernel
theorem dX4_combine_45 : decode cX4_combine 45 = .ok (.invokestatic 112, 3) := by decide +kernel
theorem dX4_combine_48 : decode cX4_combine 48 = .ok (.ifCond .ne 6, 3) := by decide +kernel
theorem dX4_combine_51 : decode cX4_combine 51 = .ok (.bipush (-2), 2) := by decide +kernel
theorem dX4_combine_53 : decode cX4_combine 53 = .ok (.ireturn, 1) := by decide +kernel
theorem dX4_combine_54 : decode cX4_combine 54 = .ok (.aload_n 0, 1) := by decide +kernel
theorem dX4_combine_55 : decode cX4_combine 55 = .ok (.invokevirtual 213, 3) := by decide +kernel
theorem dX4_combine_58 : decode cX4_combine 58 = .ok (.aload_n 0, 1) := by decide +kernel
theorem dX4_combine_59 : decode cX4_combine 59 = .ok (.bipush 55, 2) := by decide +kernel
theorem dX4_combine_61 : decode cX4_combine 61 = .ok (.iload_n 2, 1) := by decide +kernel
theorem dX4_combine_62 : decode cX4_combine 62 = .ok (.iload_n 2, 1) := by decide +kernel
theorem dX4_combine_63 : decode cX4_combine 63 = .ok (.iconst 2, 1) := by decide +kernel
theorem dX4_combine_64 : decode cX4_combine 64 = .ok (.if_icmp .le 7, 3) := by decide +kernel
theorem dX4_combine_67 : decode cX4_combine 67 = .ok (.iload_n 3, 1) := by decide +kernel
theorem dX4_combine_68 : decode cX4_combine 68 = .ok (.goto 4, 3) := by decide +kernel
theorem dX4_combine_71 : decode cX4_combine 71 = .ok (.iconst 0, 1) := by decide +kernel
theorem dX4_combine_72 : decode cX4_combine 72 = .ok (.iload_n 2, 1) := by decide +kernel
theorem dX4_combine_73 : decode cX4_combine 73 = .ok (.iconst 3, 1) := by decide +kernel
theorem dX4_combine_74 : decode cX4_combine 74 = .ok (.if_icmp .le 8, 3) := by decide +kernel
theorem dX4_combine_77 : decode cX4_combine 77 = .ok (.iload 4, 2) := by decide +kernel
theorem dX4_combine_79 : decode cX4_combine 79 = .ok (.goto 4, 3) := by decide +kernel
theorem dX4_combine_82 : decode cX4_combine 82 = .ok (.iconst 0, 1) := by decide +kernel
theorem dX4_combine_83 : decode cX4_combine 83 = .ok (.invokevirtual 204, 3) := by decide +kernel
theorem dX4_combine_86 : decode cX4_combine 86 = .ok (.aload_n 0, 1) := by decide +kernel
theorem dX4_combine_87 : decode cX4_combine 87 = .ok (.iload_n 1, 1) := by decide +kernel
theorem dX4_combine_88 : decode cX4_combine 88 = .ok (.bipush 55, 2) := by decide +kernel
theorem dX4_combine_90 : decode cX4_combine 90 = .ok (.aload_n 0, 1) := by decide +kernel
theorem dX4_combine_91 : decode cX4_combine 91 = .ok (.bipush 55, 2) := by decide +kernel
theorem dX4_combine_93 : decode cX4_combine 93 = .ok (.invokevirtual 207, 3) := by decide +kernel
theorem dX4_combine_96 : decode cX4_combine 96 = .ok (.invokevirtual 219, 3) := by decide +kernel
theorem dX4_combine_99 : decode cX4_combine 99 = .ok (.ireturn, 1) := by decide +kernel
theorem dX4_choose_0 : decode cX4_choose 0 = .ok (.iload_n 1, 1) := by decide +kernel
theorem dX4_choose_1 : decode cX4_choose 1 = .ok (.invokestatic 210, 3) := by decide +kernel
theorem dX4_choose_4 : decode cX4_choose 4 = .ok (.ifCond .eq 28, 3) := by decide +kernel
theorem dX4_choose_7 : decode cX4_choose 7 = .ok (.aload_n 0, 1) := by decide +kernel
theorem dX4_choose_8 : decode cX4_choose 8 = .ok (.iload_n 2, 1) := by decide +kernel
theorem dX4_choose_9 : decode cX4_choose 9 = .ok (.invokevirtual 223, 3) := by decide +kernel
theorem dX4_choose_12 : decode cX4_choose 12 = .ok (.ifCond .eq 20, 3) := by decide +kernel
theorem dX4_choose_15 : decode cX4_choose 15 = .ok (.aload_n 0, 1) := by decide +kernel
theorem dX4_choose_16 : decode cX4_choose 16 = .ok (.iload_n 3, 1) := by decide +kernel
theorem dX4_choose_17 : decode cX4_choose 17 = .ok (.invokevirtual 223, 3) := by decide +kernel
theorem dX4_choose_20 : decode cX4_choose 20 = .ok (.ifCond .eq 12, 3) := by decide +kernel
theorem dX4_choose_23 : decode cX4_choose 23 = .ok (.aload_n 0, 1) := by decide +kernel
theorem dX4_choose_24 : decode cX4_choose 24 = .ok (.iload 4, 2) := by decide +kernel
theorem dX4_choose_26 : decode cX4_choose 26 = .ok (.invokevirtual 223, 3) := by decide +kernel
theorem dX4_choose_29 : decode cX4_choose 29 = .ok (.ifCond .ne 5, 3) := by decide +kernel
theorem dX4_choose_32 : decode cX4_choose 32 = .ok (.iconst (-1), 1) := by decide +kernel
theorem dX4_choose_33 : decode cX4_choose 33 = .ok (.ireturn, 1) := by decide +kernel
theorem dX4_choose_34 : decode cX4_choose 34 = .ok (.aload_n 0, 1) := by decide +kernel
theorem dX4_choose_35 : decode cX4_choose 35 = .ok (.invokevirtual 213, 3) := by decide +kernel
theorem dX4_choose_38 : decode cX4_choose 38 = .ok (.aload_n 0, 1) := by decide +kernel
theorem dX4_choose_39 : decode cX4_choose 39 = .ok (.bipush 55, 2) := by decide +kernel
theorem dX4_choose_41 : decode cX4_choose 41 = .ok (.iload_n 2, 1) := by decide +kernel
theorem dX4_choose_42 : decode cX4_choose 42 = .ok (.iload_n 3, 1) := by decide +kernel
theorem dX4_choose_43 : decode cX4_choose 43 = .ok (.iload 4, 2) := by decide +kernel
theorem dX4_choose_45 : decode cX4_choose 45 = .ok (.invokevirtual 200, 3) := by decide +kernel
theorem dX4_choose_48 : decode cX4_choose 48 = .ok (.aload_n 0, 1) := by decide +kernel
theorem dX4_choose_49 : decode cX4_choose 49 = .ok (.iload_n 1, 1) := by decide +kernel
theorem dX4_choose_50 : decode cX4_choose 50 = .ok (.bipush 55, 2) := by decide +kernel
theorem dX4_choose_52 : decode cX4_choose 52 = .ok (.aload_n 0, 1) := by decide +kernel
theorem dX4_choose_53 : decode cX4_choose 53 = .ok (.bipush 55, 2) := by decide +kernel
theorem dX4_choose_55 : decode cX4_choose 55 = .ok (.invokevirtual 207, 3) := by decide +kernel
theorem dX4_choose_58 : decode cX4_choose 58 = .ok (.invokevirtual 219, 3) := by decide +kernel
theorem dX4_choose_61 : decode cX4_choose 61 = .ok (.ireturn, 1) := by decide +kernel
theorem dX4_noHalf_0 : decode cX4_noHalf 0 = .ok (.iload_n 1, 1) := by decide +kernel
theorem dX4_noHalf_1 : decode cX4_noHalf 1 = .ok (.invokestatic 210, 3) := by decide +kernel
theorem dX4_noHalf_4 : decode cX4_noHalf 4 = .ok (.ifCond .eq 11, 3) := by decide +kernel
theorem dX4_noHalf_7 : decode cX4_noHalf 7 = .ok (.aload_n 0, 1) := by decide +kernel
theorem dX4_noHalf_8 : decode cX4_noHalf 8 = .ok (.iload_n 2, 1) := by decide +kernel
theorem dX4_noHalf_9 : decode cX4_noHalf 9 = .ok (.invokevirtual 223, 3) := by decide +kernel
theorem dX4_noHalf_12 : decode cX4_noHalf 12 = .ok (.ifCond .ne 7, 3) := by decide +kernel
theorem dX4_noHalf_15 : decode cX4_noHalf 15 = .ok (.iconst (-1), 1) := by decide +kernel
theorem dX4_noHalf_16 : decode cX4_noHalf 16 = .ok (.goto 19, 3) := by decide +kernel
theorem dX4_noHalf_19 : decode cX4_noHalf 19 = .ok (.iload_n 3, 1) := by decide +kernel
theorem dX4_noHalf_20 : decode cX4_noHalf 20 = .ok (.iconst 0, 1) := by decide +kernel
theorem dX4_noHalf_21 : decode cX4_noHalf 21 = .ok (.bipush 7, 2) := by decide +kernel
theorem dX4_noHalf_23 : decode cX4_noHalf 23 = .ok (.invokestatic 112, 3) := by decide +kernel
theorem dX4_noHalf_26 : decode cX4_noHalf 26 = .ok (.ifCond .eq 7, 3) := by decide +kernel
theorem dX4_noHalf_29 : decode cX4_noHalf 29 = .ok (.iconst 0, 1) := by decide +kernel
theorem dX4_noHalf_30 : decode cX4_noHalf 30 = .ok (.goto 5, 3) := by decide +kernel
theorem dX4_noHalf_33 : decode cX4_noHalf 33 = .ok (.bipush (-2), 2) := by decide +kernel
theorem dX4_noHalf_35 : decode cX4_noHalf 35 = .ok (.ireturn, 1) := by decide +kernel
theorem dX4_restrict_0 : decode cX4_restrict 0 = .ok (.aload_n 0, 1) := by decide +kernel
theorem dX4_restrict_1 : decode cX4_restrict 1 = .ok (.iload_n 1, 1) := by decide +kernel
theorem dX4_restrict_2 : decode cX4_restrict 2 = .ok (.iload_n 2, 1) := by decide +kernel
theorem dX4_restrict_3 : decode cX4_restrict 3 = .ok (.iload_n 3, 1) := by decide +kernel
theorem dX4_restrict_4 : decode cX4_restrict 4 = .ok (.invokevirtual 226, 3) := by decide +kernel
theorem dX4_restrict_7 : decode cX4_restrict 7 = .ok (.ifCond .ge 11, 3) := by decide +kernel
theorem dX4_restrict_10 : decode cX4_restrict 10 = .ok (.aload_n 0, 1) := by decide +kernel
theorem dX4_restrict_11 : decode cX4_restrict 11 = .ok (.iload_n 1, 1) := by decide +kernel
theorem dX4_restrict_12 : decode cX4_restrict 12 = .ok (.iload_n 2, 1) := by decide +kernel
theorem dX4_restrict_13 : decode cX4_restrict 13 = .ok (.iload_n 3, 1) := by decide +kernel
theorem dX4_restrict_14 : decode cX4_restrict 14 = .ok (.invokevirtual 226, 3) := by decide +kernel
theorem dX4_restrict_17 : decode cX4_restrict 17 = .ok (.ireturn, 1) := by decide +kernel
theorem dX4_restrict_18 : decode cX4_restrict 18 = .ok (.aload_n 0, 1) := by decide +kernel
theorem dX4_restrict_19 : decode cX4_restrict 19 = .ok (.invokevirtual 213, 3) := by decide +kernel
theorem dX4_restrict_22 : decode cX4_restrict 22 = .ok (.aload_n 0, 1) := by decide +kernel
theorem dX4_restrict_23 : decode cX4_restrict 23 = .ok (.bipush 55, 2) := by decide +kernel
theorem dX4_restrict_25 : decode cX4_restrict 25 = .ok (.iload_n 2, 1) := by decide +kernel
theorem dX4_restrict_26 : decode cX4_restrict 26 = .ok (.iload_n 3, 1) := by decide +kernel
theorem dX4_restrict_27 : decode cX4_restrict 27 = .ok (.iload 4, 2) := by decide +kernel
theorem dX4_restrict_29 : decode cX4_restrict 29 = .ok (.invokevirtual 230, 3) := by decide +kernel
theorem dX4_restrict_32 : decode cX4_restrict 32 = .ok (.aload_n 0, 1) := by decide +kernel
theorem dX4_restrict_33 : decode cX4_restrict 33 = .ok (.iload_n 1, 1) := by decide +kernel
theorem dX4_restrict_34 : decode cX4_restrict 34 = .ok (.bipush 55, 2) := by decide +kernel
theorem dX4_restrict_36 : decode cX4_restrict 36 = .ok (.aload_n 0, 1) := by decide +kernel
theorem dX4_restrict_37 : decode cX4_restrict 37 = .ok (.bipush 55, 2) := by decide +kernel
theorem dX4_restrict_39 : decode cX4_restrict 39 = .ok (.invokevirtual 207, 3) := by decide +kernel
theorem dX4_restrict_42 : decode cX4_restrict 42 = .ok (.invokevirtual 219, 3) := by decide +kernel
theorem dX4_restrict_45 : decode cX4_restrict 45 = .ok (.ireturn, 1) := by decide +kernel
theorem dX4_halves_0 : decode cX4_halves 0 = .ok (.aload_n 0, 1) := by decide +kernel
theorem dX4_halves_1 : decode cX4_halves 1 = .ok (.invokevirtual 213, 3) := by decide +kernel
theorem dX4_halves_4 : decode cX4_halves 4 = .ok (.aload_n 0, 1) := by decide +kernel
theorem dX4_halves_5 : decode cX4_halves 5 = .ok (.bipush 53, 2) := by decide +kernel
theorem dX4_halves_7 : decode cX4_halves 7 = .ok (.iload_n 1, 1) := by decide +kernel
theorem dX4_halves_8 : decode cX4_halves 8 = .ok (.iload_n 2, 1) := by decide +kernel
theorem dX4_halves_9 : decode cX4_halves 9 = .ok (.iconst 0, 1) := by decide +kernel
theorem dX4_halves_10 : decode cX4_halves 10 = .ok (.invokevirtual 230, 3) := by decide +kernel
theorem dX4_halves_13 : decode cX4_halves 13 = .ok (.aload_n 0, 1) := by decide +kernel
theorem dX4_halves_14 : decode cX4_halves 14 = .ok (.bipush 53, 2) := by decide +kernel
theorem dX4_halves_16 : decode cX4_halves 16 = .ok (.invokevirtual 207, 3) := by decide +kernel
theorem dX4_halves_19 : decode cX4_halves 19 = .ok (.ifCond .ne 5, 3) := by decide +kernel
theorem dX4_halves_22 : decode cX4_halves 22 = .ok (.iconst 0, 1) := by decide +kernel
theorem dX4_halves_23 : decode cX4_halves 23 = .ok (.ireturn, 1) := by decide +kernel
theorem dX4_halves_24 : decode cX4_halves 24 = .ok (.aload_n 0, 1) := by decide +kernel
theorem dX4_halves_25 : decode cX4_halves 25 = .ok (.bipush 54, 2) := by decide +kernel
theorem dX4_halves_27 : decode cX4_halves 27 = .ok (.iload_n 1, 1) := by decide +kernel
theorem dX4_halves_28 : decode cX4_halves 28 = .ok (.iload_n 2, 1) := by decide +kernel
theorem dX4_halves_29 : decode cX4_halves 29 = .ok (.iconst 1, 1) := by decide +kernel
theorem dX4_halves_30 : decode cX4_halves 30 = .ok (.invokevirtual 230, 3) := by decide +kernel
theorem dX4_halves_33 : decode cX4_halves 33 = .ok (.aload_n 0, 1) := by decide +kernel
theorem dX4_halves_34 : decode cX4_halves 34 = .ok (.bipush 54, 2) := by decide +kernel
theorem dX4_halves_36 : decode cX4_halves 36 = .ok (.invokevirtual 207, 3) := by decide +kernel
theorem dX4_halves_39 : decode cX4_halves 39 = .ok (.ireturn, 1) := by decide +kernel
theorem dX4_quantify_0 : decode cX4_quantify 0 = .ok (.aload_n 0, 1) := by decide +kernel
theorem dX4_quantify_1 : decode cX4_quantify 1 = .ok (.iload_n 1, 1) := by decide +kernel
theorem dX4_quantify_2 : decode cX4_quantify 2 = .ok (.iload_n 2, 1) := by decide +kernel
theorem dX4_quantify_3 : decode cX4_quantify 3 = .ok (.iload_n 3, 1) := by decide +kernel
theorem dX4_quantify_4 : decode cX4_quantify 4 = .ok (.invokevirtual 226, 3) := by decide +kernel
theorem dX4_quantify_7 : decode cX4_quantify 7 = .ok (.ifCond .ge 11, 3) := by decide +kernel
theorem dX4_quantify_10 : decode cX4_quantify 10 = .ok (.aload_n 0, 1) := by decide +kernel
theorem dX4_quantify_11 : decode cX4_quantify 11 = .ok (.iload_n 1, 1) := by decide +kernel
theorem dX4_quantify_12 : decode cX4_quantify 12 = .ok (.iload_n 2, 1) := by decide +kernel
theorem dX4_quantify_13 : decode cX4_quantify 13 = .ok (.iload_n 3, 1) := by decide +kernel
theorem dX4_quantify_14 : decode cX4_quantify 14 = .ok (.invokevirtual 226, 3) := by decide +kernel
theorem dX4_quantify_17 : decode cX4_quantify 17 = .ok (.ireturn, 1) := by decide +kernel
theorem dX4_quantify_18 : decode cX4_quantify 18 = .ok (.aload_n 0, 1) := by decide +kernel
theorem dX4_quantify_19 : decode cX4_quantify 19 = .ok (.iload_n 2, 1) := by decide +kernel
theorem dX4_quantify_20 : decode cX4_quantify 20 = .ok (.iload_n 3, 1) := by decide +kernel
theorem dX4_quantify_21 : decode cX4_quantify 21 = .ok (.invokevirtual 234, 3) := by decide +kernel
theorem dX4_quantify_24 : decode cX4_quantify 24 = .ok (.istore 5, 2) := by decide +kernel
theorem dX4_quantify_26 : decode cX4_quantify 26 = .ok (.iload 5, 2) := by decide +kernel
theorem dX4_quantify_28 : decode cX4_quantify 28 = .ok (.ifCond .eq 31, 3) := by decide +kernel
theorem dX4_quantify_31 : decode cX4_quantify 31 = .ok (.aload_n 0, 1) := by decide +kernel
theorem dX4_quantify_32 : decode cX4_quantify 32 = .ok (.bipush 55, 2) := by decide +kernel
theorem dX4_quantify_34 : decode cX4_quantify 34 = .ok (.iload 4, 2) := by decide +kernel
theorem dX4_quantify_36 : decode cX4_quantify 36 = .ok (.ifCond .eq 7, 3) := by decide +kernel
theorem dX4_quantify_39 : decode cX4_quantify 39 = .ok (.iconst 4, 1) := by decide +kernel
theorem dX4_quantify_40 : decode cX4_quantify 40 = .ok (.goto 4, 3) := by decide +kernel
theorem dX4_quantify_43 : decode cX4_quantify 43 = .ok (.iconst 5, 1) := by decide +kernel
theorem dX4_quantify_44 : decode cX4_quantify 44 = .ok (.bipush 53, 2) := by decide +kernel
theorem dX4_quantify_46 : decode cX4_quantify 46 = .ok (.bipush 54, 2) := by decide +kernel
theorem dX4_quantify_48 : decode cX4_quantify 48 = .ok (.invokevirtual 204, 3) := by decide +kernel
theorem dX4_quantify_51 : decode cX4_quantify 51 = .ok (.aload_n 0, 1) := by decide +kernel
theorem dX4_quantify_52 : decode cX4_quantify 52 = .ok (.bipush 55, 2) := by decide +kernel
theorem dX4_quantify_54 : decode cX4_quantify 54 = .ok (.invokevirtual 207, 3) := by decide +kernel
theorem dX4_quantify_57 : decode cX4_quantify 57 = .ok (.istore 5, 2) := by decide +kernel
theorem dX4_quantify_59 : decode cX4_quantify 59 = .ok (.aload_n 0, 1) := by decide +kernel
theorem dX4_quantify_60 : decode cX4_quantify 60 = .ok (.iload_n 1, 1) := by decide +kernel
theorem dX4_quantify_61 : decode cX4_quantify 61 = .ok (.bipush 55, 2) := by decide +kernel
theorem dX4_quantify_63 : decode cX4_quantify 63 = .ok (.iload 5, 2) := by decide +kernel
theorem dX4_quantify_65 : decode cX4_quantify 65 = .ok (.invokevirtual 219, 3) := by decide +kernel
theorem dX4_quantify_68 : decode cX4_quantify 68 = .ok (.ireturn, 1) := by decide +kernel
theorem dX4_compose_0 : decode cX4_compose 0 = .ok (.aload_n 0, 1) := by decide +kernel
theorem dX4_compose_1 : decode cX4_compose 1 = .ok (.iload_n 1, 1) := by decide +kernel
theorem dX4_compose_2 : decode cX4_compose 2 = .ok (.iload_n 2, 1) := by decide +kernel
theorem dX4_compose_3 : decode cX4_compose 3 = .ok (.iload_n 3, 1) := by decide +kernel
theorem dX4_compose_4 : decode cX4_compose 4 = .ok (.invokevirtual 226, 3) := by decide +kernel
theorem dX4_compose_7 : decode cX4_compose 7 = .ok (.iconst (-1), 1) := by decide +kernel
theorem dX4_compose_8 : decode cX4_compose 8 = .ok (.if_icmp .eq 12, 3) := by decide +kernel
theorem dX4_compose_11 : decode cX4_compose 11 = .ok (.aload_n 0, 1) := by decide +kernel
theorem dX4_compose_12 : decode cX4_compose 12 = .ok (.iload 4, 2) := by decide +kernel
theorem dX4_compose_14 : decode cX4_compose 14 = .ok (.invokevirtual 223, 3) := by decide +kernel
theorem dX4_compose_17 : decode cX4_compose 17 = .ok (.ifCond .ne 5, 3) := by decide +kernel
theorem dX4_compose_20 : decode cX4_compose 20 = .ok (.iconst (-1), 1) := by decide +kernel
theorem dX4_compose_21 : decode cX4_compose 21 = .ok (.ireturn, 1) := by decide +kernel
theorem dX4_compose_22 : decode cX4_compose 22 = .ok (.iload_n 3, 1) := by decide +kernel
theorem dX4_compose_23 : decode cX4_compose 23 = .ok (.iconst 0, 1) := by decide +kernel
theorem dX4_compose_24 : decode cX4_compose 24 = .ok (.bipush 7, 2) := by decide +kernel
theorem dX4_compose_26 : decode cX4_compose 26 = .ok (.invokestatic 112, 3) := by decide +kernel
theorem dX4_compose_29 : decode cX4_compose 29 = .ok (.ifCond .ne 6, 3) := by decide +kernel
theorem dX4_compose_32 : decode cX4_compose 32 = .ok (.bipush (-2), 2) := by decide +kernel
theorem dX4_compose_34 : decode cX4_compose 34 = .ok (.ireturn, 1) := by decide +kernel
theorem dX4_compose_35 : decode cX4_compose 35 = .ok (.aload_n 0, 1) := by decide +kernel
theorem dX4_compose_36 : decode cX4_compose 36 = .ok (.iload_n 2, 1) := by decide +kernel
theorem dX4_compose_37 : decode cX4_compose 37 = .ok (.iload_n 3, 1) := by decide +kernel
theorem dX4_compose_38 : decode cX4_compose 38 = .ok (.invokevirtual 234, 3) := by decide +kernel
theorem dX4_compose_41 : decode cX4_compose 41 = .ok (.istore 5, 2) := by decide +kernel
theorem dX4_compose_43 : decode cX4_compose 43 = .ok (.iload 5, 2) := by decide +kernel
theorem dX4_compose_45 : decode cX4_compose 45 = .ok (.ifCond .eq 23, 3) := by decide +kernel
theorem dX4_compose_48 : decode cX4_compose 48 = .ok (.aload_n 0, 1) := by decide +kernel
theorem dX4_compose_49 : decode cX4_compose 49 = .ok (.bipush 55, 2) := by decide +kernel
theorem dX4_compose_51 : decode cX4_compose 51 = .ok (.iload 4, 2) := by decide +kernel
theorem dX4_compose_53 : decode cX4_compose 53 = .ok (.bipush 54, 2) := by decide +kernel
theorem dX4_compose_55 : decode cX4_compose 55 = .ok (.bipush 53, 2) := by decide +kernel
theorem dX4_compose_57 : decode cX4_compose 57 = .ok (.invokevirtual 200, 3) := by decide +kernel
theorem dX4_compose_60 : decode cX4_compose 60 = .ok (.aload_n 0, 1) := by decide +kernel
theorem dX4_compose_61 : decode cX4_compose 61 = .ok (.bipush 55, 2) := by decide +kernel
theorem dX4_compose_63 : decode cX4_compose 63 = .ok (.invokevirtual 207, 3) := by decide +kernel
theorem dX4_compose_66 : decode cX4_compose 66 = .ok (.istore 5, 2) := by decide +kernel
theorem dX4_compose_68 : decode cX4_compose 68 = .ok (.aload_n 0, 1) := by decide +kernel
theorem dX4_compose_69 : decode cX4_compose 69 = .ok (.iload_n 1, 1) := by decide +kernel
theorem dX4_compose_70 : decode cX4_compose 70 = .ok (.bipush 55, 2) := by decide +kernel
theorem dX4_compose_72 : decode cX4_compose 72 = .ok (.iload 5, 2) := by decide +kernel
theorem dX4_compose_74 : decode cX4_compose 74 = .ok (.invokevirtual 219, 3) := by decide +kernel
theorem dX4_compose_77 : decode cX4_compose 77 = .ok (.ireturn, 1) := by decide +kernel
theorem dX4_share_0 : decode cX4_share 0 = .ok (.iload_n 1, 1) := by decide +kernel
theorem dX4_share_1 : decode cX4_share 1 = .ok (.invokestatic 210, 3) := by decide +kernel
theorem dX4_share_4 : decode cX4_share 4 = .ok (.ifCond .eq 11, 3) := by decide +kernel
theorem dX4_share_7 : decode cX4_share 7 = .ok (.aload_n 0, 1) := by decide +kernel
theorem dX4_share_8 : decode cX4_share 8 = .ok (.iload_n 2, 1) := by decide +kernel
theorem dX4_share_9 : decode cX4_share 9 = .ok (.invokevirtual 223, 3) := by decide +kernel
theorem dX4_share_12 : decode cX4_share 12 = .ok (.ifCond .ne 5, 3) := by decide +kernel
theorem dX4_share_15 : decode cX4_share 15 = .ok (.iconst (-1), 1) := by decide +kernel
theorem dX4_share_16 : decode cX4_share 16 = .ok (.ireturn, 1) := by decide +kernel
theorem dX4_share_17 : decode cX4_share 17 = .ok (.iload_n 1, 1) := by decide +kernel
theorem dX4_share_18 : decode cX4_share 18 = .ok (.iload_n 2, 1) := by decide +kernel
theorem dX4_share_19 : decode cX4_share 19 = .ok (.if_icmp .eq 9, 3) := by decide +kernel
theorem dX4_share_22 : decode cX4_share 22 = .ok (.aload_n 0, 1) := by decide +kernel
theorem dX4_share_23 : decode cX4_share 23 = .ok (.iload_n 2, 1) := by decide +kernel
theorem dX4_share_24 : decode cX4_share 24 = .ok (.iload_n 1, 1) := by decide +kernel
theorem dX4_share_25 : decode cX4_share 25 = .ok (.invokevirtual 182, 3) := by decide +kernel
theorem dX4_share_28 : decode cX4_share 28 = .ok (.iconst 1, 1) := by decide +kernel
theorem dX4_share_29 : decode cX4_share 29 = .ok (.ireturn, 1) := by decide +kernel
theorem dX4_drop_0 : decode cX4_drop 0 = .ok (.iload_n 1, 1) := by decide +kernel
theorem dX4_drop_1 : decode cX4_drop 1 = .ok (.invokestatic 210, 3) := by decide +kernel
theorem dX4_drop_4 : decode cX4_drop 4 = .ok (.ifCond .ne 5, 3) := by decide +kernel
theorem dX4_drop_7 : decode cX4_drop 7 = .ok (.iconst (-1), 1) := by decide +kernel
theorem dX4_drop_8 : decode cX4_drop 8 = .ok (.ireturn, 1) := by decide +kernel
theorem dX4_drop_9 : decode cX4_drop 9 = .ok (.aload_n 0, 1) := by decide +kernel
theorem dX4_drop_10 : decode cX4_drop 10 = .ok (.getfield 44, 3) := by decide +kernel
theorem dX4_drop_13 : decode cX4_drop 13 = .ok (.iload_n 1, 1) := by decide +kernel
theorem dX4_drop_14 : decode cX4_drop 14 = .ok (.baload, 1) := by decide +kernel
theorem dX4_drop_15 : decode cX4_drop 15 = .ok (.ifCond .eq 7, 3) := by decide +kernel
theorem dX4_drop_18 : decode cX4_drop 18 = .ok (.iconst 1, 1) := by decide +kernel
theorem dX4_drop_19 : decode cX4_drop 19 = .ok (.goto 4, 3) := by decide +kernel
theorem dX4_drop_22 : decode cX4_drop 22 = .ok (.iconst 0, 1) := by decide +kernel
theorem dX4_drop_23 : decode cX4_drop 23 = .ok (.istore_n 2, 1) := by decide +kernel
theorem dX4_drop_24 : decode cX4_drop 24 = .ok (.aload_n 0, 1) := by decide +kernel
theorem dX4_drop_25 : decode cX4_drop 25 = .ok (.iload_n 1, 1) := by decide +kernel
theorem dX4_drop_26 : decode cX4_drop 26 = .ok (.invokevirtual 179, 3) := by decide +kernel
theorem dX4_drop_29 : decode cX4_drop 29 = .ok (.iload_n 2, 1) := by decide +kernel
theorem dX4_drop_30 : decode cX4_drop 30 = .ok (.ireturn, 1) := by decide +kernel
theorem dX4_nodes_0 : decode cX4_nodes 0 = .ok (.aload_n 0, 1) := by decide +kernel
theorem dX4_nodes_1 : decode cX4_nodes 1 = .ok (.iload_n 1, 1) := by decide +kernel
theorem dX4_nodes_2 : decode cX4_nodes 2 = .ok (.invokevirtual 223, 3) := by decide +kernel
theorem dX4_nodes_5 : decode cX4_nodes 5 = .ok (.ifCond .eq 12, 3) := by decide +kernel
theorem dX4_nodes_8 : decode cX4_nodes 8 = .ok (.aload_n 0, 1) := by decide +kernel
theorem dX4_nodes_9 : decode cX4_nodes 9 = .ok (.getfield 51, 3) := by decide +kernel
theorem dX4_nodes_12 : decode cX4_nodes 12 = .ok (.iload_n 1, 1) := by decide +kernel
theorem dX4_nodes_13 : decode cX4_nodes 13 = .ok (.iaload, 1) := by decide +kernel
theorem dX4_nodes_14 : decode cX4_nodes 14 = .ok (.goto 4, 3) := by decide +kernel
theorem dX4_nodes_17 : decode cX4_nodes 17 = .ok (.iconst (-1), 1) := by decide +kernel
theorem dX4_nodes_18 : decode cX4_nodes 18 = .ok (.ireturn, 1) := by decide +kernel
theorem dX4_inUse_0 : decode cX4_inUse 0 = .ok (.aload_n 0, 1) := by decide +kernel
theorem dX4_inUse_1 : decode cX4_inUse 1 = .ok (.getfield 149, 3) := by decide +kernel
theorem dX4_inUse_4 : decode cX4_inUse 4 = .ok (.ireturn, 1) := by decide +kernel
theorem dX4_common_0 : decode cX4_common 0 = .ok (.aload_n 0, 1) := by decide +kernel
theorem dX4_common_1 : decode cX4_common 1 = .ok (.iload_n 1, 1) := by decide +kernel
theorem dX4_common_2 : decode cX4_common 2 = .ok (.invokevirtual 223, 3) := by decide +kernel
theorem dX4_common_5 : decode cX4_common 5 = .ok (.ifCond .eq 11, 3) := by decide +kernel
theorem dX4_common_8 : decode cX4_common 8 = .ok (.aload_n 0, 1) := by decide +kernel
theorem dX4_common_9 : decode cX4_common 9 = .ok (.iload_n 2, 1) := by decide +kernel
theorem dX4_common_10 : decode cX4_common 10 = .ok (.invokevirtual 223, 3) := by decide +kernel
theorem dX4_common_13 : decode cX4_common 13 = .ok (.ifCond .ne 5, 3) := by decide +kernel
theorem dX4_common_16 : decode cX4_common 16 = .ok (.iconst (-1), 1) := by decide +kernel
theorem dX4_common_17 : decode cX4_common 17 = .ok (.ireturn, 1) := by decide +kernel
theorem dX4_common_18 : decode cX4_common 18 = .ok (.iconst 0, 1) := by decide +kernel
theorem dX4_common_19 : decode cX4_common 19 = .ok (.istore_n 3, 1) := by decide +kernel
theorem dX4_common_20 : decode cX4_common 20 = .ok (.iconst 0, 1) := by decide +kernel
theorem dX4_common_21 : decode cX4_common 21 = .ok (.istore 4, 2) := by decide +kernel
theorem dX4_common_23 : decode cX4_common 23 = .ok (.iload 4, 2) := by decide +kernel
theorem dX4_common_25 : decode cX4_common 25 = .ok (.aload_n 0, 1) := by decide +kernel
theorem dX4_common_26 : decode cX4_common 26 = .ok (.getfield 51, 3) := by decide +kernel
theorem dX4_common_29 : decode cX4_common 29 = .ok (.iload_n 1, 1) := by decide +kernel
theorem dX4_common_30 : decode cX4_common 30 = .ok (.iaload, 1) := by decide +kernel
theorem dX4_common_31 : decode cX4_common 31 = .ok (.if_icmp .ge 66, 3) := by decide +kernel
theorem dX4_common_34 : decode cX4_common 34 = .ok (.iconst 0, 1) := by decide +kernel
theorem dX4_common_35 : decode cX4_common 35 = .ok (.istore 5, 2) := by decide +kernel
theorem dX4_common_37 : decode cX4_common 37 = .ok (.iload 5, 2) := by decide +kernel
theorem dX4_common_39 : decode cX4_common 39 = .ok (.aload_n 0, 1) := by decide +kernel
theorem dX4_common_40 : decode cX4_common 40 = .ok (.getfield 51, 3) := by decide +kernel
theorem dX4_common_43 : decode cX4_common 43 = .ok (.iload_n 2, 1) := by decide +kernel
theorem dX4_common_44 : decode cX4_common 44 = .ok (.iaload, 1) := by decide +kernel
theorem dX4_common_45 : decode cX4_common 45 = .ok (.if_icmp .ge 46, 3) := by decide +kernel
theorem dX4_common_48 : decode cX4_common 48 = .ok (.iload_n 3, 1) := by decide +kernel
theorem dX4_common_49 : decode cX4_common 49 = .ok (.aload_n 0, 1) := by decide +kernel
theorem dX4_common_50 : decode cX4_common 50 = .ok (.getfield 54, 3) := by decide +kernel
theorem dX4_common_53 : decode cX4_common 53 = .ok (.sipush 255, 3) := by decide +kernel
theorem dX4_common_56 : decode cX4_common 56 = .ok (.iload_n 1, 1) := by decide +kernel
theorem dX4_common_57 : decode cX4_common 57 = .ok (.imul, 1) := by decide +kernel
theorem dX4_common_58 : decode cX4_common 58 = .ok (.iload 4, 2) := by decide +kernel
theorem dX4_common_60 : decode cX4_common 60 = .ok (.iadd, 1) := by decide +kernel
theorem dX4_common_61 : decode cX4_common 61 = .ok (.iaload, 1) := by decide +kernel
theorem dX4_common_62 : decode cX4_common 62 = .ok (.aload_n 0, 1) := by decide +kernel
theorem dX4_common_63 : decode cX4_common 63 = .ok (.getfield 54, 3) := by decide +kernel
theorem dX4_common_66 : decode cX4_common 66 = .ok (.sipush 255, 3) := by decide +kernel
theorem dX4_common_69 : decode cX4_common 69 = .ok (.iload_n 2, 1) := by decide +kernel
theorem dX4_common_70 : decode cX4_common 70 = .ok (.imul, 1) := by decide +kernel
theorem dX4_common_71 : decode cX4_common 71 = .ok (.iload 5, 2) := by decide +kernel
theorem dX4_common_73 : decode cX4_common 73 = .ok (.iadd, 1) := by decide +kernel
theorem dX4_common_74 : decode cX4_common 74 = .ok (.iaload, 1) := by decide +kernel
theorem dX4_common_75 : decode cX4_common 75 = .ok (.if_icmp .ne 7, 3) := by decide +kernel
theorem dX4_common_78 : decode cX4_common 78 = .ok (.iconst 1, 1) := by decide +kernel
theorem dX4_common_79 : decode cX4_common 79 = .ok (.goto 4, 3) := by decide +kernel
theorem dX4_common_82 : decode cX4_common 82 = .ok (.iconst 0, 1) := by decide +kernel
theorem dX4_common_83 : decode cX4_common 83 = .ok (.iadd, 1) := by decide +kernel
theorem dX4_common_84 : decode cX4_common 84 = .ok (.istore_n 3, 1) := by decide +kernel
theorem dX4_common_85 : decode cX4_common 85 = .ok (.iinc 5 1, 3) := by decide +kernel
theorem dX4_common_88 : decode cX4_common 88 = .ok (.goto (-51), 3) := by decide +kernel
theorem dX4_common_91 : decode cX4_common 91 = .ok (.iinc 4 1, 3) := by decide +kernel
theorem dX4_common_94 : decode cX4_common 94 = .ok (.goto (-71), 3) := by decide +kernel
theorem dX4_common_97 : decode cX4_common 97 = .ok (.iload_n 3, 1) := by decide +kernel
theorem dX4_common_98 : decode cX4_common 98 = .ok (.ireturn, 1) := by decide +kernel
theorem dX4_peak_0 : decode cX4_peak 0 = .ok (.aload_n 0, 1) := by decide +kernel
theorem dX4_peak_1 : decode cX4_peak 1 = .ok (.getfield 176, 3) := by decide +kernel
theorem dX4_peak_4 : decode cX4_peak 4 = .ok (.ireturn, 1) := by decide +kernel
theorem dX4_stands_0 : decode cX4_stands 0 = .ok (.iconst 0, 1) := by decide +kernel
theorem dX4_stands_1 : decode cX4_stands 1 = .ok (.istore_n 2, 1) := by decide +kernel
theorem dX4_stands_2 : decode cX4_stands 2 = .ok (.iconst 0, 1) := by decide +kernel
theorem dX4_stands_3 : decode cX4_stands 3 = .ok (.istore_n 3, 1) := by decide +kernel
theorem dX4_stands_4 : decode cX4_stands 4 = .ok (.iload_n 3, 1) := by decide +kernel
theorem dX4_stands_5 : decode cX4_stands 5 = .ok (.bipush 8, 2) := by decide +kernel
theorem dX4_stands_7 : decode cX4_stands 7 = .ok (.if_icmp .ge 24, 3) := by decide +kernel
theorem dX4_stands_10 : decode cX4_stands 10 = .ok (.iconst 2, 1) := by decide +kernel
theorem dX4_stands_11 : decode cX4_stands 11 = .ok (.iload_n 2, 1) := by decide +kernel
theorem dX4_stands_12 : decode cX4_stands 12 = .ok (.imul, 1) := by decide +kernel
theorem dX4_stands_13 : decode cX4_stands 13 = .ok (.iload_n 1, 1) := by decide +kernel
theorem dX4_stands_14 : decode cX4_stands 14 = .ok (.aload_n 0, 1) := by decide +kernel
theorem dX4_stands_15 : decode cX4_stands 15 = .ok (.getfield 29, 3) := by decide +kernel
theorem dX4_stands_18 : decode cX4_stands 18 = .ok (.iload_n 3, 1) := by decide +kernel
theorem dX4_stands_19 : decode cX4_stands 19 = .ok (.iaload, 1) := by decide +kernel
theorem dX4_stands_20 : decode cX4_stands 20 = .ok (.ishr, 1) := by decide +kernel
theorem dX4_stands_21 : decode cX4_stands 21 = .ok (.iconst 1, 1) := by decide +kernel
theorem dX4_stands_22 : decode cX4_stands 22 = .ok (.iand, 1) := by decide +kernel
theorem dX4_stands_23 : decode cX4_stands 23 = .ok (.iadd, 1) := by decide +kernel
theorem dX4_stands_24 : decode cX4_stands 24 = .ok (.istore_n 2, 1) := by decide +kernel
theorem dX4_stands_25 : decode cX4_stands 25 = .ok (.iinc 3 1, 3) := by decide +kernel
theorem dX4_stands_28 : decode cX4_stands 28 = .ok (.goto (-24), 3) := by decide +kernel
theorem dX4_stands_31 : decode cX4_stands 31 = .ok (.iload_n 2, 1) := by decide +kernel
theorem dX4_stands_32 : decode cX4_stands 32 = .ok (.ireturn, 1) := by decide +kernel
theorem dX4_assignmentAt_0 : decode cX4_assignmentAt 0 = .ok (.iconst 0, 1) := by decide +kernel
theorem dX4_assignmentAt_1 : decode cX4_assignmentAt 1 = .ok (.istore_n 2, 1) := by decide +kernel
theorem dX4_assignmentAt_2 : decode cX4_assignmentAt 2 = .ok (.iconst 0, 1) := by decide +kernel
theorem dX4_assignmentAt_3 : decode cX4_assignmentAt 3 = .ok (.istore_n 3, 1) := by decide +kernel
theorem dX4_assignmentAt_4 : decode cX4_assignmentAt 4 = .ok (.iload_n 3, 1) := by decide +kernel
theorem dX4_assignmentAt_5 : decode cX4_assignmentAt 5 = .ok (.bipush 8, 2) := by decide +kernel
theorem dX4_assignmentAt_7 : decode cX4_assignmentAt 7 = .ok (.if_icmp .ge 27, 3) := by decide +kernel
theorem dX4_assignmentAt_10 : decode cX4_assignmentAt 10 = .ok (.iload_n 2, 1) := by decide +kernel
theorem dX4_assignmentAt_11 : decode cX4_assignmentAt 11 = .ok (.iload_n 1, 1) := by decide +kernel
theorem dX4_assignmentAt_12 : decode cX4_assignmentAt 12 = .ok (.bipush 7, 2) := by decide +kernel
theorem dX4_assignmentAt_14 : decode cX4_assignmentAt 14 = .ok (.iload_n 3, 1) := by decide +kernel
theorem dX4_assignmentAt_15 : decode cX4_assignmentAt 15 = .ok (.isub, 1) := by decide +kernel
theorem dX4_assignmentAt_16 : decode cX4_assignmentAt 16 = .ok (.ishr, 1) := by decide +kernel
theorem dX4_assignmentAt_17 : decode cX4_assignmentAt 17 = .ok (.iconst 1, 1) := by decide +kernel
theorem dX4_assignmentAt_18 : decode cX4_assignmentAt 18 = .ok (.iand, 1) := by decide +kernel
theorem dX4_assignmentAt_19 : decode cX4_assignmentAt 19 = .ok (.aload_n 0, 1) := by decide +kernel
theorem dX4_assignmentAt_20 : decode cX4_assignmentAt 20 = .ok (.getfield 29, 3) := by decide +kernel
theorem dX4_assignmentAt_23 : decode cX4_assignmentAt 23 = .ok (.iload_n 3, 1) := by decide +kernel
theorem dX4_assignmentAt_24 : decode cX4_assignmentAt 24 = .ok (.iaload, 1) := by decide +kernel
theorem dX4_assignmentAt_25 : decode cX4_assignmentAt 25 = .ok (.ishl, 1) := by decide +kernel
theorem dX4_assignmentAt_26 : decode cX4_assignmentAt 26 = .ok (.ior, 1) := by decide +kernel
theorem dX4_assignmentAt_27 : decode cX4_assignmentAt 27 = .ok (.istore_n 2, 1) := by decide +kernel
theorem dX4_assignmentAt_28 : decode cX4_assignmentAt 28 = .ok (.iinc 3 1, 3) := by decide +kernel
theorem dX4_assignmentAt_31 : decode cX4_assignmentAt 31 = .ok (.goto (-27), 3) := by decide +kernel
theorem dX4_assignmentAt_34 : decode cX4_assignmentAt 34 = .ok (.iload_n 2, 1) := by decide +kernel
theorem dX4_assignmentAt_35 : decode cX4_assignmentAt 35 = .ok (.ireturn, 1) := by decide +kernel
theorem dX4_value_0 : decode cX4_value 0 = .ok (.aload_n 0, 1) := by decide +kernel
theorem dX4_value_1 : decode cX4_value 1 = .ok (.iload_n 1, 1) := by decide +kernel
theorem dX4_value_2 : decode cX4_value 2 = .ok (.invokevirtual 223, 3) := by decide +kernel
theorem dX4_value_5 : decode cX4_value 5 = .ok (.ifCond .ne 5, 3) := by decide +kernel
theorem dX4_value_8 : decode cX4_value 8 = .ok (.iconst (-1), 1) := by decide +kernel
theorem dX4_value_9 : decode cX4_value 9 = .ok (.ireturn, 1) := by decide +kernel
theorem dX4_value_10 : decode cX4_value 10 = .ok (.iload_n 2, 1) := by decide +kernel
theorem dX4_value_11 : decode cX4_value 11 = .ok (.iconst 0, 1) := by decide +kernel
theorem dX4_value_12 : decode cX4_value 12 = .ok (.sipush 255, 3) := by decide +kernel
theorem dX4_value_15 : decode cX4_value 15 = .ok (.invokestatic 112, 3) := by decide +kernel
theorem dX4_value_18 : decode cX4_value 18 = .ok (.ifCond .ne 6, 3) := by decide +kernel
theorem dX4_value_21 : decode cX4_value 21 = .ok (.bipush (-2), 2) := by decide +kernel
theorem dX4_value_23 : decode cX4_value 23 = .ok (.ireturn, 1) := by decide +kernel
theorem dX4_value_24 : decode cX4_value 24 = .ok (.aload_n 0, 1) := by decide +kernel
theorem dX4_value_25 : decode cX4_value 25 = .ok (.iload_n 1, 1) := by decide +kernel
theorem dX4_value_26 : decode cX4_value 26 = .ok (.aload_n 0, 1) := by decide +kernel
theorem dX4_value_27 : decode cX4_value 27 = .ok (.iload_n 2, 1) := by decide +kernel
theorem dX4_value_28 : decode cX4_value 28 = .ok (.invokevirtual 237, 3) := by decide +kernel
theorem dX4_value_31 : decode cX4_value 31 = .ok (.invokevirtual 240, 3) := by decide +kernel
theorem dX4_value_34 : decode cX4_value 34 = .ok (.ifCond .eq 7, 3) := by decide +kernel
theorem dX4_value_37 : decode cX4_value 37 = .ok (.iconst 1, 1) := by decide +kernel
theorem dX4_value_38 : decode cX4_value 38 = .ok (.goto 4, 3) := by decide +kernel
theorem dX4_value_41 : decode cX4_value 41 = .ok (.iconst 0, 1) := by decide +kernel
theorem dX4_value_42 : decode cX4_value 42 = .ok (.ireturn, 1) := by decide +kernel
theorem dX4_same_0 : decode cX4_same 0 = .ok (.aload_n 0, 1) := by decide +kernel
theorem dX4_same_1 : decode cX4_same 1 = .ok (.iload_n 1, 1) := by decide +kernel
theorem dX4_same_2 : decode cX4_same 2 = .ok (.invokevirtual 223, 3) := by decide +kernel
theorem dX4_same_5 : decode cX4_same 5 = .ok (.ifCond .eq 11, 3) := by decide +kernel
theorem dX4_same_8 : decode cX4_same 8 = .ok (.aload_n 0, 1) := by decide +kernel
theorem dX4_same_9 : decode cX4_same 9 = .ok (.iload_n 2, 1) := by decide +kernel
theorem dX4_same_10 : decode cX4_same 10 = .ok (.invokevirtual 223, 3) := by decide +kernel
theorem dX4_same_13 : decode cX4_same 13 = .ok (.ifCond .ne 5, 3) := by decide +kernel
theorem dX4_same_16 : decode cX4_same 16 = .ok (.iconst (-1), 1) := by decide +kernel
theorem dX4_same_17 : decode cX4_same 17 = .ok (.ireturn, 1) := by decide +kernel
theorem dX4_same_18 : decode cX4_same 18 = .ok (.iconst 1, 1) := by decide +kernel
theorem dX4_same_19 : decode cX4_same 19 = .ok (.istore_n 3, 1) := by decide +kernel
theorem dX4_same_20 : decode cX4_same 20 = .ok (.iconst 0, 1) := by decide +kernel
theorem dX4_same_21 : decode cX4_same 21 = .ok (.istore 4, 2) := by decide +kernel
theorem dX4_same_23 : decode cX4_same 23 = .ok (.iload 4, 2) := by decide +kernel
theorem dX4_same_25 : decode cX4_same 25 = .ok (.iconst 4, 1) := by decide +kernel
theorem dX4_same_26 : decode cX4_same 26 = .ok (.if_icmp .ge 45, 3) := by decide +kernel
theorem dX4_same_29 : decode cX4_same 29 = .ok (.iload_n 3, 1) := by decide +kernel
theorem dX4_same_30 : decode cX4_same 30 = .ok (.ifCond .eq 33, 3) := by decide +kernel
theorem dX4_same_33 : decode cX4_same 33 = .ok (.aload_n 0, 1) := by decide +kernel
theorem dX4_same_34 : decode cX4_same 34 = .ok (.getfield 47, 3) := by decide +kernel
theorem dX4_same_37 : decode cX4_same 37 = .ok (.iconst 4, 1) := by decide +kernel
theorem dX4_same_38 : decode cX4_same 38 = .ok (.iload_n 1, 1) := by decide +kernel
theorem dX4_same_39 : decode cX4_same 39 = .ok (.imul, 1) := by decide +kernel
theorem dX4_same_40 : decode cX4_same 40 = .ok (.iload 4, 2) := by decide +kernel
theorem dX4_same_42 : decode cX4_same 42 = .ok (.iadd, 1) := by decide +kernel
theorem dX4_same_43 : decode cX4_same 43 = .ok (.laload, 1) := by decide +kernel
theorem dX4_same_44 : decode cX4_same 44 = .ok (.aload_n 0, 1) := by decide +kernel
theorem dX4_same_45 : decode cX4_same 45 = .ok (.getfield 47, 3) := by decide +kernel
theorem dX4_same_48 : decode cX4_same 48 = .ok (.iconst 4, 1) := by decide +kernel
theorem dX4_same_49 : decode cX4_same 49 = .ok (.iload_n 2, 1) := by decide +kernel
theorem dX4_same_50 : decode cX4_same 50 = .ok (.imul, 1) := by decide +kernel
theorem dX4_same_51 : decode cX4_same 51 = .ok (.iload 4, 2) := by decide +kernel
theorem dX4_same_53 : decode cX4_same 53 = .ok (.iadd, 1) := by decide +kernel
theorem dX4_same_54 : decode cX4_same 54 = .ok (.laload, 1) := by decide +kernel
theorem dX4_same_55 : decode cX4_same 55 = .ok (.lcmp, 1) := by decide +kernel
theorem dX4_same_56 : decode cX4_same 56 = .ok (.ifCond .ne 7, 3) := by decide +kernel
theorem dX4_same_59 : decode cX4_same 59 = .ok (.iconst 1, 1) := by decide +kernel
theorem dX4_same_60 : decode cX4_same 60 = .ok (.goto 4, 3) := by decide +kernel
theorem dX4_same_63 : decode cX4_same 63 = .ok (.iconst 0, 1) := by decide +kernel
theorem dX4_same_64 : decode cX4_same 64 = .ok (.istore_n 3, 1) := by decide +kernel
theorem dX4_same_65 : decode cX4_same 65 = .ok (.iinc 4 1, 3) := by decide +kernel
theorem dX4_same_68 : decode cX4_same 68 = .ok (.goto (-45), 3) := by decide +kernel
theorem dX4_same_71 : decode cX4_same 71 = .ok (.iload_n 3, 1) := by decide +kernel
theorem dX4_same_72 : decode cX4_same 72 = .ok (.ifCond .eq 7, 3) := by decide +kernel
theorem dX4_same_75 : decode cX4_same 75 = .ok (.iconst 1, 1) := by decide +kernel
theorem dX4_same_76 : decode cX4_same 76 = .ok (.goto 4, 3) := by decide +kernel
theorem dX4_same_79 : decode cX4_same 79 = .ok (.iconst 0, 1) := by decide +kernel
theorem dX4_same_80 : decode cX4_same 80 = .ok (.ireturn, 1) := by decide +kernel
theorem dX4_count_0 : decode cX4_count 0 = .ok (.aload_n 0, 1) := by decide +kernel
theorem dX4_count_1 : decode cX4_count 1 = .ok (.iload_n 1, 1) := by decide +kernel
theorem dX4_count_2 : decode cX4_count 2 = .ok (.invokevirtual 223, 3) := by decide +kernel
theorem dX4_count_5 : decode cX4_count 5 = .ok (.ifCond .ne 5, 3) := by decide +kernel
theorem dX4_count_8 : decode cX4_count 8 = .ok (.iconst (-1), 1) := by decide +kernel
theorem dX4_count_9 : decode cX4_count 9 = .ok (.ireturn, 1) := by decide +kernel
theorem dX4_count_10 : decode cX4_count 10 = .ok (.iconst 0, 1) := by decide +kernel
theorem dX4_count_11 : decode cX4_count 11 = .ok (.istore_n 2, 1) := by decide +kernel
theorem dX4_count_12 : decode cX4_count 12 = .ok (.iconst 0, 1) := by decide +kernel
theorem dX4_count_13 : decode cX4_count 13 = .ok (.istore_n 3, 1) := by decide +kernel
theorem dX4_count_14 : decode cX4_count 14 = .ok (.iload_n 3, 1) := by decide +kernel
theorem dX4_count_15 : decode cX4_count 15 = .ok (.sipush 256, 3) := by decide +kernel
theorem dX4_count_18 : decode cX4_count 18 = .ok (.if_icmp .ge 26, 3) := by decide +kernel
theorem dX4_count_21 : decode cX4_count 21 = .ok (.iload_n 2, 1) := by decide +kernel
theorem dX4_count_22 : decode cX4_count 22 = .ok (.aload_n 0, 1) := by decide +kernel
theorem dX4_count_23 : decode cX4_count 23 = .ok (.iload_n 1, 1) := by decide +kernel
theorem dX4_count_24 : decode cX4_count 24 = .ok (.iload_n 3, 1) := by decide +kernel
theorem dX4_count_25 : decode cX4_count 25 = .ok (.invokevirtual 240, 3) := by decide +kernel
theorem dX4_count_28 : decode cX4_count 28 = .ok (.ifCond .eq 7, 3) := by decide +kernel
theorem dX4_count_31 : decode cX4_count 31 = .ok (.iconst 1, 1) := by decide +kernel
theorem dX4_count_32 : decode cX4_count 32 = .ok (.goto 4, 3) := by decide +kernel
theorem dX4_count_35 : decode cX4_count 35 = .ok (.iconst 0, 1) := by decide +kernel
theorem dX4_count_36 : decode cX4_count 36 = .ok (.iadd, 1) := by decide +kernel
theorem dX4_count_37 : decode cX4_count 37 = .ok (.istore_n 2, 1) := by decide +kernel
theorem dX4_count_38 : decode cX4_count 38 = .ok (.iinc 3 1, 3) := by decide +kernel
theorem dX4_count_41 : decode cX4_count 41 = .ok (.goto (-27), 3) := by decide +kernel
theorem dX4_count_44 : decode cX4_count 44 = .ok (.iload_n 2, 1) := by decide +kernel
theorem dX4_count_45 : decode cX4_count 45 = .ok (.ireturn, 1) := by decide +kernel
theorem dX4_hangs_0 : decode cX4_hangs 0 = .ok (.iconst 0, 1) := by decide +kernel
theorem dX4_hangs_1 : decode cX4_hangs 1 = .ok (.istore_n 3, 1) := by decide +kernel
theorem dX4_hangs_2 : decode cX4_hangs 2 = .ok (.iconst 1, 1) := by decide +kernel
theorem dX4_hangs_3 : decode cX4_hangs 3 = .ok (.bipush 7, 2) := by decide +kernel
theorem dX4_hangs_5 : decode cX4_hangs 5 = .ok (.iload_n 2, 1) := by decide +kernel
theorem dX4_hangs_6 : decode cX4_hangs 6 = .ok (.isub, 1) := by decide +kernel
theorem dX4_hangs_7 : decode cX4_hangs 7 = .ok (.ishl, 1) := by decide +kernel
theorem dX4_hangs_8 : decode cX4_hangs 8 = .ok (.istore 4, 2) := by decide +kernel
theorem dX4_hangs_10 : decode cX4_hangs 10 = .ok (.iconst 0, 1) := by decide +kernel
theorem dX4_hangs_11 : decode cX4_hangs 11 = .ok (.istore 5, 2) := by decide +kernel
theorem dX4_hangs_13 : decode cX4_hangs 13 = .ok (.iload 5, 2) := by decide +kernel
theorem dX4_hangs_15 : decode cX4_hangs 15 = .ok (.sipush 256, 3) := by decide +kernel
theorem dX4_hangs_18 : decode cX4_hangs 18 = .ok (.if_icmp .ge 39, 3) := by decide +kernel
theorem dX4_hangs_21 : decode cX4_hangs 21 = .ok (.iload_n 3, 1) := by decide +kernel
theorem dX4_hangs_22 : decode cX4_hangs 22 = .ok (.ifCond .ne 23, 3) := by decide +kernel
theorem dX4_hangs_25 : decode cX4_hangs 25 = .ok (.aload_n 0, 1) := by decide +kernel
theorem dX4_hangs_26 : decode cX4_hangs 26 = .ok (.iload_n 1, 1) := by decide +kernel
theorem dX4_hangs_27 : decode cX4_hangs 27 = .ok (.iload 5, 2) := by decide +kernel
theorem dX4_hangs_29 : decode cX4_hangs 29 = .ok (.invokevirtual 240, 3) := by decide +kernel
theorem dX4_hangs_32 : decode cX4_hangs 32 = .ok (.aload_n 0, 1) := by decide +kernel
theorem dX4_hangs_33 : decode cX4_hangs 33 = .ok (.iload_n 1, 1) := by decide +kernel
theorem dX4_hangs_34 : decode cX4_hangs 34 = .ok (.iload 5, 2) := by decide +kernel
theorem dX4_hangs_36 : decode cX4_hangs 36 = .ok (.iload 4, 2) := by decide +kernel
theorem dX4_hangs_38 : decode cX4_hangs 38 = .ok (.ixor, 1) := by decide +kernel
theorem dX4_hangs_39 : decode cX4_hangs 39 = .ok (.invokevirtual 240, 3) := by decide +kernel
theorem dX4_hangs_42 : decode cX4_hangs 42 = .ok (.if_icmp .eq 7, 3) := by decide +kernel
theorem dX4_hangs_45 : decode cX4_hangs 45 = .ok (.iconst 1, 1) := by decide +kernel
theorem dX4_hangs_46 : decode cX4_hangs 46 = .ok (.goto 4, 3) := by decide +kernel
theorem dX4_hangs_49 : decode cX4_hangs 49 = .ok (.iconst 0, 1) := by decide +kernel
theorem dX4_hangs_50 : decode cX4_hangs 50 = .ok (.istore_n 3, 1) := by decide +kernel
theorem dX4_hangs_51 : decode cX4_hangs 51 = .ok (.iinc 5 1, 3) := by decide +kernel
theorem dX4_hangs_54 : decode cX4_hangs 54 = .ok (.goto (-41), 3) := by decide +kernel
theorem dX4_hangs_57 : decode cX4_hangs 57 = .ok (.iload_n 3, 1) := by decide +kernel
theorem dX4_hangs_58 : decode cX4_hangs 58 = .ok (.ireturn, 1) := by decide +kernel
theorem dX4_support_0 : decode cX4_support 0 = .ok (.aload_n 0, 1) := by decide +kernel
theorem dX4_support_1 : decode cX4_support 1 = .ok (.iload_n 1, 1) := by decide +kernel
theorem dX4_support_2 : decode cX4_support 2 = .ok (.invokevirtual 223, 3) := by decide +kernel
theorem dX4_support_5 : decode cX4_support 5 = .ok (.ifCond .ne 5, 3) := by decide +kernel
theorem dX4_support_8 : decode cX4_support 8 = .ok (.iconst (-1), 1) := by decide +kernel
theorem dX4_support_9 : decode cX4_support 9 = .ok (.ireturn, 1) := by decide +kernel
theorem dX4_support_10 : decode cX4_support 10 = .ok (.iconst 0, 1) := by decide +kernel
theorem dX4_support_11 : decode cX4_support 11 = .ok (.istore_n 2, 1) := by decide +kernel
theorem dX4_support_12 : decode cX4_support 12 = .ok (.iconst 0, 1) := by decide +kernel
theorem dX4_support_13 : decode cX4_support 13 = .ok (.istore_n 3, 1) := by decide +kernel
theorem dX4_support_14 : decode cX4_support 14 = .ok (.iload_n 3, 1) := by decide +kernel
theorem dX4_support_15 : decode cX4_support 15 = .ok (.bipush 8, 2) := by decide +kernel
theorem dX4_support_17 : decode cX4_support 17 = .ok (.if_icmp .ge 33, 3) := by decide +kernel
theorem dX4_support_20 : decode cX4_support 20 = .ok (.iload_n 2, 1) := by decide +kernel
theorem dX4_support_21 : decode cX4_support 21 = .ok (.aload_n 0, 1) := by decide +kernel
theorem dX4_support_22 : decode cX4_support 22 = .ok (.iload_n 1, 1) := by decide +kernel
theorem dX4_support_23 : decode cX4_support 23 = .ok (.iload_n 3, 1) := by decide +kernel
theorem dX4_support_24 : decode cX4_support 24 = .ok (.invokevirtual 243, 3) := by decide +kernel
theorem dX4_support_27 : decode cX4_support 27 = .ok (.ifCond .eq 14, 3) := by decide +kernel
theorem dX4_support_30 : decode cX4_support 30 = .ok (.iconst 1, 1) := by decide +kernel
theorem dX4_support_31 : decode cX4_support 31 = .ok (.aload_n 0, 1) := by decide +kernel
theorem dX4_support_32 : decode cX4_support 32 = .ok (.getfield 29, 3) := by decide +kernel
theorem dX4_support_35 : decode cX4_support 35 = .ok (.iload_n 3, 1) := by decide +kernel
theorem dX4_support_36 : decode cX4_support 36 = .ok (.iaload, 1) := by decide +kernel
theorem dX4_support_37 : decode cX4_support 37 = .ok (.ishl, 1) := by decide +kernel
theorem dX4_support_38 : decode cX4_support 38 = .ok (.goto 4, 3) := by decide +kernel
theorem dX4_support_41 : decode cX4_support 41 = .ok (.iconst 0, 1) := by decide +kernel
theorem dX4_support_42 : decode cX4_support 42 = .ok (.ior, 1) := by decide +kernel
theorem dX4_support_43 : decode cX4_support 43 = .ok (.istore_n 2, 1) := by decide +kernel
theorem dX4_support_44 : decode cX4_support 44 = .ok (.iinc 3 1, 3) := by decide +kernel
theorem dX4_support_47 : decode cX4_support 47 = .ok (.goto (-33), 3) := by decide +kernel
theorem dX4_support_50 : decode cX4_support 50 = .ok (.iload_n 2, 1) := by decide +kernel
theorem dX4_support_51 : decode cX4_support 51 = .ok (.ireturn, 1) := by decide +kernel
theorem dX4_top_0 : decode cX4_top 0 = .ok (.aload_n 0, 1) := by decide +kernel
theorem dX4_top_1 : decode cX4_top 1 = .ok (.iload_n 1, 1) := by decide +kernel
theorem dX4_top_2 : decode cX4_top 2 = .ok (.invokevirtual 223, 3) := by decide +kernel
theorem dX4_top_5 : decode cX4_top 5 = .ok (.ifCond .ne 5, 3) := by decide +kernel
theorem dX4_top_8 : decode cX4_top 8 = .ok (.iconst (-1), 1) := by decide +kernel
theorem dX4_top_9 : decode cX4_top 9 = .ok (.ireturn, 1) := by decide +kernel
theorem dX4_top_10 : decode cX4_top 10 = .ok (.iconst 0, 1) := by decide +kernel
theorem dX4_top_11 : decode cX4_top 11 = .ok (.istore_n 2, 1) := by decide +kernel
theorem dX4_top_12 : decode cX4_top 12 = .ok (.iload_n 2, 1) := by decide +kernel
theorem dX4_top_13 : decode cX4_top 13 = .ok (.bipush 8, 2) := by decide +kernel
theorem dX4_top_15 : decode cX4_top 15 = .ok (.if_icmp .ge 25, 3) := by decide +kernel
theorem dX4_top_18 : decode cX4_top 18 = .ok (.aload_n 0, 1) := by decide +kernel
theorem dX4_top_19 : decode cX4_top 19 = .ok (.iload_n 1, 1) := by decide +kernel
theorem dX4_top_20 : decode cX4_top 20 = .ok (.iload_n 2, 1) := by decide +kernel
theorem dX4_top_21 : decode cX4_top 21 = .ok (.invokevirtual 243, 3) := by decide +kernel
theorem dX4_top_24 : decode cX4_top 24 = .ok (.ifCond .eq 10, 3) := by decide +kernel
theorem dX4_top_27 : decode cX4_top 27 = .ok (.aload_n 0, 1) := by decide +kernel
theorem dX4_top_28 : decode cX4_top 28 = .ok (.getfield 29, 3) := by decide +kernel
theorem dX4_top_31 : decode cX4_top 31 = .ok (.iload_n 2, 1) := by decide +kernel
theorem dX4_top_32 : decode cX4_top 32 = .ok (.iaload, 1) := by decide +kernel
theorem dX4_top_33 : decode cX4_top 33 = .ok (.ireturn, 1) := by decide +kernel
theorem dX4_top_34 : decode cX4_top 34 = .ok (.iinc 2 1, 3) := by decide +kernel
theorem dX4_top_37 : decode cX4_top 37 = .ok (.goto (-25), 3) := by decide +kernel
theorem dX4_top_40 : decode cX4_top 40 = .ok (.bipush (-9), 2) := by decide +kernel
theorem dX4_top_42 : decode cX4_top 42 = .ok (.ireturn, 1) := by decide +kernel
theorem dX4_level_0 : decode cX4_level 0 = .ok (.aload_n 0, 1) := by decide +kernel
theorem dX4_level_1 : decode cX4_level 1 = .ok (.iload_n 1, 1) := by decide +kernel
theorem dX4_level_2 : decode cX4_level 2 = .ok (.invokevirtual 223, 3) := by decide +kernel
theorem dX4_level_5 : decode cX4_level 5 = .ok (.ifCond .ne 5, 3) := by decide +kernel
theorem dX4_level_8 : decode cX4_level 8 = .ok (.iconst (-1), 1) := by decide +kernel
theorem dX4_level_9 : decode cX4_level 9 = .ok (.ireturn, 1) := by decide +kernel
theorem dX4_level_10 : decode cX4_level 10 = .ok (.iload_n 2, 1) := by decide +kernel
theorem dX4_level_11 : decode cX4_level 11 = .ok (.iconst 0, 1) := by decide +kernel
theorem dX4_level_12 : decode cX4_level 12 = .ok (.bipush 7, 2) := by decide +kernel
theorem dX4_level_14 : decode cX4_level 14 = .ok (.invokestatic 112, 3) := by decide +kernel
theorem dX4_level_17 : decode cX4_level 17 = .ok (.ifCond .ne 6, 3) := by decide +kernel
theorem dX4_level_20 : decode cX4_level 20 = .ok (.bipush (-2), 2) := by decide +kernel
theorem dX4_level_22 : decode cX4_level 22 = .ok (.ireturn, 1) := by decide +kernel
theorem dX4_level_23 : decode cX4_level 23 = .ok (.iconst 0, 1) := by decide +kernel
theorem dX4_level_24 : decode cX4_level 24 = .ok (.istore_n 3, 1) := by decide +kernel
theorem dX4_level_25 : decode cX4_level 25 = .ok (.iconst 0, 1) := by decide +kernel
theorem dX4_level_26 : decode cX4_level 26 = .ok (.istore 4, 2) := by decide +kernel
theorem dX4_level_28 : decode cX4_level 28 = .ok (.iload 4, 2) := by decide +kernel
theorem dX4_level_30 : decode cX4_level 30 = .ok (.aload_n 0, 1) := by decide +kernel
theorem dX4_level_31 : decode cX4_level 31 = .ok (.getfield 51, 3) := by decide +kernel
theorem dX4_level_34 : decode cX4_level 34 = .ok (.iload_n 1, 1) := by decide +kernel
theorem dX4_level_35 : decode cX4_level 35 = .ok (.iaload, 1) := by decide +kernel
theorem dX4_level_36 : decode cX4_level 36 = .ok (.if_icmp .ge 44, 3) := by decide +kernel
theorem dX4_level_39 : decode cX4_level 39 = .ok (.iload_n 3, 1) := by decide +kernel
theorem dX4_level_40 : decode cX4_level 40 = .ok (.aload_n 0, 1) := by decide +kernel
theorem dX4_level_41 : decode cX4_level 41 = .ok (.getfield 57, 3) := by decide +kernel
theorem dX4_level_44 : decode cX4_level 44 = .ok (.aload_n 0, 1) := by decide +kernel
theorem dX4_level_45 : decode cX4_level 45 = .ok (.getfield 54, 3) := by decide +kernel
theorem dX4_level_48 : decode cX4_level 48 = .ok (.sipush 255, 3) := by decide +kernel
theorem dX4_level_51 : decode cX4_level 51 = .ok (.iload_n 1, 1) := by decide +kernel
theorem dX4_level_52 : decode cX4_level 52 = .ok (.imul, 1) := by decide +kernel
theorem dX4_level_53 : decode cX4_level 53 = .ok (.iload 4, 2) := by decide +kernel
theorem dX4_level_55 : decode cX4_level 55 = .ok (.iadd, 1) := by decide +kernel
theorem dX4_level_56 : decode cX4_level 56 = .ok (.iaload, 1) := by decide +kernel
theorem dX4_level_57 : decode cX4_level 57 = .ok (.iaload, 1) := by decide +kernel
theorem dX4_level_58 : decode cX4_level 58 = .ok (.aload_n 0, 1) := by decide +kernel
theorem dX4_level_59 : decode cX4_level 59 = .ok (.getfield 32, 3) := by decide +kernel
theorem dX4_level_62 : decode cX4_level 62 = .ok (.iload_n 2, 1) := by decide +kernel
theorem dX4_level_63 : decode cX4_level 63 = .ok (.iaload, 1) := by decide +kernel
theorem dX4_level_64 : decode cX4_level 64 = .ok (.if_icmp .ne 7, 3) := by decide +kernel
theorem dX4_level_67 : decode cX4_level 67 = .ok (.iconst 1, 1) := by decide +kernel
theorem dX4_level_68 : decode cX4_level 68 = .ok (.goto 4, 3) := by decide +kernel
theorem dX4_level_71 : decode cX4_level 71 = .ok (.iconst 0, 1) := by decide +kernel
theorem dX4_level_72 : decode cX4_level 72 = .ok (.iadd, 1) := by decide +kernel
theorem dX4_level_73 : decode cX4_level 73 = .ok (.istore_n 3, 1) := by decide +kernel
theorem dX4_level_74 : decode cX4_level 74 = .ok (.iinc 4 1, 3) := by decide +kernel
theorem dX4_level_77 : decode cX4_level 77 = .ok (.goto (-49), 3) := by decide +kernel
theorem dX4_level_80 : decode cX4_level 80 = .ok (.iload_n 3, 1) := by decide +kernel
theorem dX4_level_81 : decode cX4_level 81 = .ok (.ireturn, 1) := by decide +kernel
theorem dX4_leastOf_0 : decode cX4_leastOf 0 = .ok (.iconst 0, 1) := by decide +kernel
theorem dX4_leastOf_1 : decode cX4_leastOf 1 = .ok (.istore_n 3, 1) := by decide +kernel
theorem dX4_leastOf_2 : decode cX4_leastOf 2 = .ok (.iload_n 3, 1) := by decide +kernel
theorem dX4_leastOf_3 : decode cX4_leastOf 3 = .ok (.sipush 256, 3) := by decide +kernel
theorem dX4_leastOf_6 : decode cX4_leastOf 6 = .ok (.if_icmp .ge 21, 3) := by decide +kernel
theorem dX4_leastOf_9 : decode cX4_leastOf 9 = .ok (.aload_n 0, 1) := by decide +kernel
theorem dX4_leastOf_10 : decode cX4_leastOf 10 = .ok (.iload_n 1, 1) := by decide +kernel
theorem dX4_leastOf_11 : decode cX4_leastOf 11 = .ok (.iload_n 3, 1) := by decide +kernel
theorem dX4_leastOf_12 : decode cX4_leastOf 12 = .ok (.invokevirtual 240, 3) := by decide +kernel
theorem dX4_leastOf_15 : decode cX4_leastOf 15 = .ok (.iload_n 2, 1) := by decide +kernel
theorem dX4_leastOf_16 : decode cX4_leastOf 16 = .ok (.if_icmp .ne 5, 3) := by decide +kernel
theorem dX4_leastOf_19 : decode cX4_leastOf 19 = .ok (.iload_n 3, 1) := by decide +kernel
theorem dX4_leastOf_20 : decode cX4_leastOf 20 = .ok (.ireturn, 1) := by decide +kernel
theorem dX4_leastOf_21 : decode cX4_leastOf 21 = .ok (.iinc 3 1, 3) := by decide +kernel
theorem dX4_leastOf_24 : decode cX4_leastOf 24 = .ok (.goto (-22), 3) := by decide +kernel
theorem dX4_leastOf_27 : decode cX4_leastOf 27 = .ok (.iconst (-1), 1) := by decide +kernel
theorem dX4_leastOf_28 : decode cX4_leastOf 28 = .ok (.ireturn, 1) := by decide +kernel
theorem dX4_least_0 : decode cX4_least 0 = .ok (.aload_n 0, 1) := by decide +kernel
theorem dX4_least_1 : decode cX4_least 1 = .ok (.iload_n 1, 1) := by decide +kernel
theorem dX4_least_2 : decode cX4_least 2 = .ok (.invokevirtual 223, 3) := by decide +kernel
theorem dX4_least_5 : decode cX4_least 5 = .ok (.ifCond .ne 5, 3) := by decide +kernel
theorem dX4_least_8 : decode cX4_least 8 = .ok (.iconst (-1), 1) := by decide +kernel
theorem dX4_least_9 : decode cX4_least 9 = .ok (.ireturn, 1) := by decide +kernel
theorem dX4_least_10 : decode cX4_least 10 = .ok (.aload_n 0, 1) := by decide +kernel
theorem dX4_least_11 : decode cX4_least 11 = .ok (.iload_n 1, 1) := by decide +kernel
theorem dX4_least_12 : decode cX4_least 12 = .ok (.iload_n 2, 1) := by decide +kernel
theorem dX4_least_13 : decode cX4_least 13 = .ok (.invokevirtual 246, 3) := by decide +kernel
theorem dX4_least_16 : decode cX4_least 16 = .ok (.istore_n 3, 1) := by decide +kernel
theorem dX4_least_17 : decode cX4_least 17 = .ok (.iload_n 3, 1) := by decide +kernel
theorem dX4_least_18 : decode cX4_least 18 = .ok (.ifCond .ge 8, 3) := by decide +kernel
theorem dX4_least_21 : decode cX4_least 21 = .ok (.bipush (-9), 2) := by decide +kernel
theorem dX4_least_23 : decode cX4_least 23 = .ok (.goto 8, 3) := by decide +kernel
theorem dX4_least_26 : decode cX4_least 26 = .ok (.aload_n 0, 1) := by decide +kernel
theorem dX4_least_27 : decode cX4_least 27 = .ok (.iload_n 3, 1) := by decide +kernel
theorem dX4_least_28 : decode cX4_least 28 = .ok (.invokevirtual 250, 3) := by decide +kernel
theorem dX4_least_31 : decode cX4_least 31 = .ok (.ireturn, 1) := by decide +kernel
theorem dX4_paths_0 : decode cX4_paths 0 = .ok (.aload_n 0, 1) := by decide +kernel
theorem dX4_paths_1 : decode cX4_paths 1 = .ok (.iload_n 1, 1) := by decide +kernel
theorem dX4_paths_2 : decode cX4_paths 2 = .ok (.invokevirtual 223, 3) := by decide +kernel
theorem dX4_paths_5 : decode cX4_paths 5 = .ok (.ifCond .ne 5, 3) := by decide +kernel
theorem dX4_paths_8 : decode cX4_paths 8 = .ok (.iconst (-1), 1) := by decide +kernel
theorem dX4_paths_9 : decode cX4_paths 9 = .ok (.ireturn, 1) := by decide +kernel
theorem dX4_paths_10 : decode cX4_paths 10 = .ok (.iconst 0, 1) := by decide +kernel
theorem dX4_paths_11 : decode cX4_paths 11 = .ok (.istore_n 3, 1) := by decide +kernel
theorem dX4_paths_12 : decode cX4_paths 12 = .ok (.iload_n 3, 1) := by decide +kernel
theorem dX4_paths_13 : decode cX4_paths 13 = .ok (.sipush 256, 3) := by decide +kernel
theorem dX4_paths_16 : decode cX4_paths 16 = .ok (.if_icmp .ge 30, 3) := by decide +kernel
theorem dX4_paths_19 : decode cX4_paths 19 = .ok (.aload_n 0, 1) := by decide +kernel
theorem dX4_paths_20 : decode cX4_paths 20 = .ok (.getfield 99, 3) := by decide +kernel
theorem dX4_paths_23 : decode cX4_paths 23 = .ok (.iload_n 3, 1) := by decide +kernel
theorem dX4_paths_24 : decode cX4_paths 24 = .ok (.aload_n 0, 1) := by decide +kernel
theorem dX4_paths_25 : decode cX4_paths 25 = .ok (.iload_n 1, 1) := by decide +kernel
theorem dX4_paths_26 : decode cX4_paths 26 = .ok (.iload_n 3, 1) := by decide +kernel
theorem dX4_paths_27 : decode cX4_paths 27 = .ok (.invokevirtual 240, 3) := by decide +kernel
theorem dX4_paths_30 : decode cX4_paths 30 = .ok (.iload_n 2, 1) := by decide +kernel
theorem dX4_paths_31 : decode cX4_paths 31 = .ok (.if_icmp .ne 7, 3) := by decide +kernel
theorem dX4_paths_34 : decode cX4_paths 34 = .ok (.iconst 1, 1) := by decide +kernel
theorem dX4_paths_35 : decode cX4_paths 35 = .ok (.goto 4, 3) := by decide +kernel
theorem dX4_paths_38 : decode cX4_paths 38 = .ok (.iconst 0, 1) := by decide +kernel
theorem dX4_paths_39 : decode cX4_paths 39 = .ok (.iastore, 1) := by decide +kernel
theorem dX4_paths_40 : decode cX4_paths 40 = .ok (.iinc 3 1, 3) := by decide +kernel
theorem dX4_paths_43 : decode cX4_paths 43 = .ok (.goto (-31), 3) := by decide +kernel
theorem dX4_paths_46 : decode cX4_paths 46 = .ok (.bipush 7, 2) := by decide +kernel
theorem dX4_paths_48 : decode cX4_paths 48 = .ok (.istore_n 3, 1) := by decide +kernel
theorem dX4_paths_49 : decode cX4_paths 49 = .ok (.iload_n 3, 1) := by decide +kernel
theorem dX4_paths_50 : decode cX4_paths 50 = .ok (.ifCond .lt 77, 3) := by decide +kernel
theorem dX4_paths_53 : decode cX4_paths 53 = .ok (.iconst 0, 1) := by decide +kernel
theorem dX4_paths_54 : decode cX4_paths 54 = .ok (.istore 4, 2) := by decide +kernel
theorem dX4_paths_56 : decode cX4_paths 56 = .ok (.iload 4, 2) := by decide +kernel
theorem dX4_paths_58 : decode cX4_paths 58 = .ok (.iconst 1, 1) := by decide +kernel
theorem dX4_paths_59 : decode cX4_paths 59 = .ok (.iload_n 3, 1) := by decide +kernel
theorem dX4_paths_60 : decode cX4_paths 60 = .ok (.ishl, 1) := by decide +kernel
theorem dX4_paths_61 : decode cX4_paths 61 = .ok (.if_icmp .ge 60, 3) := by decide +kernel
theorem dX4_paths_64 : decode cX4_paths 64 = .ok (.aload_n 0, 1) := by decide +kernel
theorem dX4_paths_65 : decode cX4_paths 65 = .ok (.getfield 99, 3) := by decide +kernel
theorem dX4_paths_68 : decode cX4_paths 68 = .ok (.iload 4, 2) := by decide +kernel
theorem dX4_paths_70 : decode cX4_paths 70 = .ok (.aload_n 0, 1) := by decide +kernel
theorem dX4_paths_71 : decode cX4_paths 71 = .ok (.iload_n 1, 1) := by decide +kernel
theorem dX4_paths_72 : decode cX4_paths 72 = .ok (.iload_n 3, 1) := by decide +kernel
theorem dX4_paths_73 : decode cX4_paths 73 = .ok (.iload 4, 2) := by decide +kernel
theorem dX4_paths_75 : decode cX4_paths 75 = .ok (.invokevirtual 163, 3) := by decide +kernel
theorem dX4_paths_78 : decode cX4_paths 78 = .ok (.ifCond .eq 27, 3) := by decide +kernel
theorem dX4_paths_81 : decode cX4_paths 81 = .ok (.aload_n 0, 1) := by decide +kernel
theorem dX4_paths_82 : decode cX4_paths 82 = .ok (.getfield 99, 3) := by decide +kernel
theorem dX4_paths_85 : decode cX4_paths 85 = .ok (.iconst 2, 1) := by decide +kernel
theorem dX4_paths_86 : decode cX4_paths 86 = .ok (.iload 4, 2) := by decide +kernel
theorem dX4_paths_88 : decode cX4_paths 88 = .ok (.imul, 1) := by decide +kernel
theorem dX4_paths_89 : decode cX4_paths 89 = .ok (.iaload, 1) := by decide +kernel
theorem dX4_paths_90 : decode cX4_paths 90 = .ok (.aload_n 0, 1) := by decide +kernel
theorem dX4_paths_91 : decode cX4_paths 91 = .ok (.getfield 99, 3) := by decide +kernel
theorem dX4_paths_94 : decode cX4_paths 94 = .ok (.iconst 2, 1) := by decide +kernel
theorem dX4_paths_95 : decode cX4_paths 95 = .ok (.iload 4, 2) := by decide +kernel
theorem dX4_paths_97 : decode cX4_paths 97 = .ok (.imul, 1) := by decide +kernel
theorem dX4_paths_98 : decode cX4_paths 98 = .ok (.iconst 1, 1) := by decide +kernel
theorem dX4_paths_99 : decode cX4_paths 99 = .ok (.iadd, 1) := by decide +kernel
theorem dX4_paths_100 : decode cX4_paths 100 = .ok (.iaload, 1) := by decide +kernel
theorem dX4_paths_101 : decode cX4_paths 101 = .ok (.iadd, 1) := by decide +kernel
theorem dX4_paths_102 : decode cX4_paths 102 = .ok (.goto 12, 3) := by decide +kernel
theorem dX4_paths_105 : decode cX4_paths 105 = .ok (.aload_n 0, 1) := by decide +kernel
theorem dX4_paths_106 : decode cX4_paths 106 = .ok (.getfield 99, 3) := by decide +kernel
theorem dX4_paths_109 : decode cX4_paths 109 = .ok (.iconst 2, 1) := by decide +kernel
theorem dX4_paths_110 : decode cX4_paths 110 = .ok (.iload 4, 2) := by decide +kernel
theorem dX4_paths_112 : decode cX4_paths 112 = .ok (.imul, 1) := by decide +kernel
theorem dX4_paths_113 : decode cX4_paths 113 = .ok (.iaload, 1) := by decide +kernel
theorem dX4_paths_114 : decode cX4_paths 114 = .ok (.iastore, 1) := by decide +kernel
theorem dX4_paths_115 : decode cX4_paths 115 = .ok (.iinc 4 1, 3) := by decide +kernel
theorem dX4_paths_118 : decode cX4_paths 118 = .ok (.goto (-62), 3) := by decide +kernel
theorem dX4_paths_121 : decode cX4_paths 121 = .ok (.iinc 3 (-1), 3) := by decide +kernel
theorem dX4_paths_124 : decode cX4_paths 124 = .ok (.goto (-75), 3) := by decide +kernel
theorem dX4_paths_127 : decode cX4_paths 127 = .ok (.aload_n 0, 1) := by decide +kernel
theorem dX4_paths_128 : decode cX4_paths 128 = .ok (.getfield 99, 3) := by decide +kernel
theorem dX4_paths_131 : decode cX4_paths 131 = .ok (.iconst 0, 1) := by decide +kernel
theorem dX4_paths_132 : decode cX4_paths 132 = .ok (.iaload, 1) := by decide +kernel
theorem dX4_paths_133 : decode cX4_paths 133 = .ok (.ireturn, 1) := by decide +kernel
theorem dX4_equal_0 : decode cX4_equal 0 = .ok (.iload_n 1, 1) := by decide +kernel
theorem dX4_equal_1 : decode cX4_equal 1 = .ok (.invokestatic 116, 3) := by decide +kernel
theorem dX4_equal_4 : decode cX4_equal 4 = .ok (.ifCond .eq 10, 3) := by decide +kernel
theorem dX4_equal_7 : decode cX4_equal 7 = .ok (.iload_n 2, 1) := by decide +kernel
theorem dX4_equal_8 : decode cX4_equal 8 = .ok (.invokestatic 116, 3) := by decide +kernel
theorem dX4_equal_11 : decode cX4_equal 11 = .ok (.ifCond .ne 5, 3) := by decide +kernel
theorem dX4_equal_14 : decode cX4_equal 14 = .ok (.iconst (-1), 1) := by decide +kernel
theorem dX4_equal_15 : decode cX4_equal 15 = .ok (.ireturn, 1) := by decide +kernel
theorem dX4_equal_16 : decode cX4_equal 16 = .ok (.aload_n 0, 1) := by decide +kernel
theorem dX4_equal_17 : decode cX4_equal 17 = .ok (.getfield 13, 3) := by decide +kernel
theorem dX4_equal_20 : decode cX4_equal 20 = .ok (.iload_n 1, 1) := by decide +kernel
theorem dX4_equal_21 : decode cX4_equal 21 = .ok (.iaload, 1) := by decide +kernel
theorem dX4_equal_22 : decode cX4_equal 22 = .ok (.aload_n 0, 1) := by decide +kernel
theorem dX4_equal_23 : decode cX4_equal 23 = .ok (.getfield 13, 3) := by decide +kernel
theorem dX4_equal_26 : decode cX4_equal 26 = .ok (.iload_n 2, 1) := by decide +kernel
theorem dX4_equal_27 : decode cX4_equal 27 = .ok (.iaload, 1) := by decide +kernel
theorem dX4_equal_28 : decode cX4_equal 28 = .ok (.if_icmp .eq 6, 3) := by decide +kernel
theorem dX4_equal_31 : decode cX4_equal 31 = .ok (.bipush (-3), 2) := by decide +kernel
theorem dX4_equal_33 : decode cX4_equal 33 = .ok (.ireturn, 1) := by decide +kernel
theorem dX4_equal_34 : decode cX4_equal 34 = .ok (.aload_n 0, 1) := by decide +kernel
theorem dX4_equal_35 : decode cX4_equal 35 = .ok (.getfield 13, 3) := by decide +kernel
theorem dX4_equal_38 : decode cX4_equal 38 = .ok (.iload_n 1, 1) := by decide +kernel
theorem dX4_equal_39 : decode cX4_equal 39 = .ok (.iaload, 1) := by decide +kernel
theorem dX4_equal_40 : decode cX4_equal 40 = .ok (.ifCond .le 7, 3) := by decide +kernel
theorem dX4_equal_43 : decode cX4_equal 43 = .ok (.aload_n 0, 1) := by decide +kernel
theorem dX4_equal_44 : decode cX4_equal 44 = .ok (.invokevirtual 213, 3) := by decide +kernel
theorem dX4_equal_47 : decode cX4_equal 47 = .ok (.iconst 0, 1) := by decide +kernel
theorem dX4_equal_48 : decode cX4_equal 48 = .ok (.istore_n 3, 1) := by decide +kernel
theorem dX4_equal_49 : decode cX4_equal 49 = .ok (.iload_n 3, 1) := by decide +kernel
theorem dX4_equal_50 : decode cX4_equal 50 = .ok (.aload_n 0, 1) := by decide +kernel
theorem dX4_equal_51 : decode cX4_equal 51 = .ok (.getfield 13, 3) := by decide +kernel
theorem dX4_equal_54 : decode cX4_equal 54 = .ok (.iload_n 1, 1) := by decide +kernel
theorem dX4_equal_55 : decode cX4_equal 55 = .ok (.iaload, 1) := by decide +kernel
theorem dX4_equal_56 : decode cX4_equal 56 = .ok (.if_icmp .ge 156, 3) := by decide +kernel
theorem dX4_equal_59 : decode cX4_equal 59 = .ok (.aload_n 0, 1) := by decide +kernel
theorem dX4_equal_60 : decode cX4_equal 60 = .ok (.getfield 22, 3) := by decide +kernel
theorem dX4_equal_63 : decode cX4_equal 63 = .ok (.iconst 4, 1) := by decide +kernel
theorem dX4_equal_64 : decode cX4_equal 64 = .ok (.iload_n 1, 1) := by decide +kernel
theorem dX4_equal_65 : decode cX4_equal 65 = .ok (.imul, 1) := by decide +kernel
theorem dX4_equal_66 : decode cX4_equal 66 = .ok (.iload_n 3, 1) := by decide +kernel
theorem dX4_equal_67 : decode cX4_equal 67 = .ok (.iadd, 1) := by decide +kernel
theorem dX4_equal_68 : decode cX4_equal 68 = .ok (.iaload, 1) := by decide +kernel
theorem dX4_equal_69 : decode cX4_equal 69 = .ok (.istore 4, 2) := by decide +kernel
theorem dX4_equal_71 : decode cX4_equal 71 = .ok (.aload_n 0, 1) := by decide +kernel
theorem dX4_equal_72 : decode cX4_equal 72 = .ok (.getfield 22, 3) := by decide +kernel
theorem dX4_equal_75 : decode cX4_equal 75 = .ok (.iconst 4, 1) := by decide +kernel
theorem dX4_equal_76 : decode cX4_equal 76 = .ok (.iload_n 2, 1) := by decide +kernel
theorem dX4_equal_77 : decode cX4_equal 77 = .ok (.imul, 1) := by decide +kernel
theorem dX4_equal_78 : decode cX4_equal 78 = .ok (.iload_n 3, 1) := by decide +kernel
theorem dX4_equal_79 : decode cX4_equal 79 = .ok (.iadd, 1) := by decide +kernel
theorem dX4_equal_80 : decode cX4_equal 80 = .ok (.iaload, 1) := by decide +kernel
theorem dX4_equal_81 : decode cX4_equal 81 = .ok (.istore 5, 2) := by decide +kernel
theorem dX4_equal_83 : decode cX4_equal 83 = .ok (.aload_n 0, 1) := by decide +kernel
theorem dX4_equal_84 : decode cX4_equal 84 = .ok (.iload_n 1, 1) := by decide +kernel
theorem dX4_equal_85 : decode cX4_equal 85 = .ok (.iload 4, 2) := by decide +kernel
theorem dX4_equal_87 : decode cX4_equal 87 = .ok (.invokevirtual 216, 3) := by decide +kernel
theorem dX4_equal_90 : decode cX4_equal 90 = .ok (.istore 6, 2) := by decide +kernel
theorem dX4_equal_92 : decode cX4_equal 92 = .ok (.iload 6, 2) := by decide +kernel
theorem dX4_equal_94 : decode cX4_equal 94 = .ok (.ifCond .eq 32, 3) := by decide +kernel
theorem dX4_equal_97 : decode cX4_equal 97 = .ok (.aload_n 0, 1) := by decide +kernel
theorem dX4_equal_98 : decode cX4_equal 98 = .ok (.bipush 12, 2) := by decide +kernel
theorem dX4_equal_100 : decode cX4_equal 100 = .ok (.iload 4, 2) := by decide +kernel
theorem dX4_equal_102 : decode cX4_equal 102 = .ok (.iadd, 1) := by decide +kernel
theorem dX4_equal_103 : decode cX4_equal 103 = .ok (.bipush 52, 2) := by decide +kernel
theorem dX4_equal_105 : decode cX4_equal 105 = .ok (.invokevirtual 182, 3) := by decide +kernel
theorem dX4_equal_108 : decode cX4_equal 108 = .ok (.aload_n 0, 1) := by decide +kernel
theorem dX4_equal_109 : decode cX4_equal 109 = .ok (.bipush 12, 2) := by decide +kernel
theorem dX4_equal_111 : decode cX4_equal 111 = .ok (.iload 4, 2) := by decide +kernel
theorem dX4_equal_113 : decode cX4_equal 113 = .ok (.iadd, 1) := by decide +kernel
theorem dX4_equal_114 : decode cX4_equal 114 = .ok (.invokevirtual 179, 3) := by decide +kernel
theorem dX4_equal_117 : decode cX4_equal 117 = .ok (.aload_n 0, 1) := by decide +kernel
theorem dX4_equal_118 : decode cX4_equal 118 = .ok (.iload_n 2, 1) := by decide +kernel
theorem dX4_equal_119 : decode cX4_equal 119 = .ok (.iload 5, 2) := by decide +kernel
theorem dX4_equal_121 : decode cX4_equal 121 = .ok (.invokevirtual 216, 3) := by decide +kernel
theorem dX4_equal_124 : decode cX4_equal 124 = .ok (.istore 6, 2) := by decide +kernel
theorem dX4_equal_126 : decode cX4_equal 126 = .ok (.iload 6, 2) := by decide +kernel
theorem dX4_equal_128 : decode cX4_equal 128 = .ok (.ifCond .eq 26, 3) := by decide +kernel
theorem dX4_equal_131 : decode cX4_equal 131 = .ok (.aload_n 0, 1) := by decide +kernel
theorem dX4_equal_132 : decode cX4_equal 132 = .ok (.bipush 55, 2) := by decide +kernel
theorem dX4_equal_134 : decode cX4_equal 134 = .ok (.bipush 6, 2) := by decide +kernel
theorem dX4_equal_136 : decode cX4_equal 136 = .ok (.bipush 52, 2) := by decide +kernel
theorem dX4_equal_138 : decode cX4_equal 138 = .ok (.bipush 12, 2) := by decide +kernel
theorem dX4_equal_140 : decode cX4_equal 140 = .ok (.iload 5, 2) := by decide +kernel
theorem dX4_equal_142 : decode cX4_equal 142 = .ok (.iadd, 1) := by decide +kernel
theorem dX4_equal_143 : decode cX4_equal 143 = .ok (.invokevirtual 204, 3) := by decide +kernel
theorem dX4_equal_146 : decode cX4_equal 146 = .ok (.aload_n 0, 1) := by decide +kernel
theorem dX4_equal_147 : decode cX4_equal 147 = .ok (.bipush 55, 2) := by decide +kernel
theorem dX4_equal_149 : decode cX4_equal 149 = .ok (.invokevirtual 207, 3) := by decide +kernel
theorem dX4_equal_152 : decode cX4_equal 152 = .ok (.istore 6, 2) := by decide +kernel
theorem dX4_equal_154 : decode cX4_equal 154 = .ok (.iload 6, 2) := by decide +kernel
theorem dX4_equal_156 : decode cX4_equal 156 = .ok (.ifCond .eq 13, 3) := by decide +kernel
theorem dX4_equal_159 : decode cX4_equal 159 = .ok (.aload_n 0, 1) := by decide +kernel
theorem dX4_equal_160 : decode cX4_equal 160 = .ok (.bipush 55, 2) := by decide +kernel
theorem dX4_equal_162 : decode cX4_equal 162 = .ok (.iconst 1, 1) := by decide +kernel
theorem dX4_equal_163 : decode cX4_equal 163 = .ok (.invokevirtual 246, 3) := by decide +kernel
theorem dX4_equal_166 : decode cX4_equal 166 = .ok (.goto 4, 3) := by decide +kernel
theorem dX4_equal_169 : decode cX4_equal 169 = .ok (.iconst (-1), 1) := by decide +kernel
theorem dX4_equal_170 : decode cX4_equal 170 = .ok (.istore 7, 2) := by decide +kernel
theorem dX4_equal_172 : decode cX4_equal 172 = .ok (.aload_n 0, 1) := by decide +kernel
theorem dX4_equal_173 : decode cX4_equal 173 = .ok (.invokevirtual 185, 3) := by decide +kernel
theorem dX4_equal_176 : decode cX4_equal 176 = .ok (.iload 6, 2) := by decide +kernel
theorem dX4_equal_178 : decode cX4_equal 178 = .ok (.ifCond .ne 6, 3) := by decide +kernel
theorem dX4_equal_181 : decode cX4_equal 181 = .ok (.bipush (-5), 2) := by decide +kernel
theorem dX4_equal_183 : decode cX4_equal 183 = .ok (.ireturn, 1) := by decide +kernel
theorem dX4_equal_184 : decode cX4_equal 184 = .ok (.iload 7, 2) := by decide +kernel
theorem dX4_equal_186 : decode cX4_equal 186 = .ok (.ifCond .lt 20, 3) := by decide +kernel
theorem dX4_equal_189 : decode cX4_equal 189 = .ok (.aload_n 0, 1) := by decide +kernel
theorem dX4_equal_190 : decode cX4_equal 190 = .ok (.iload_n 3, 1) := by decide +kernel
theorem dX4_equal_191 : decode cX4_equal 191 = .ok (.putfield 106, 3) := by decide +kernel
theorem dX4_equal_194 : decode cX4_equal 194 = .ok (.aload_n 0, 1) := by decide +kernel
theorem dX4_equal_195 : decode cX4_equal 195 = .ok (.aload_n 0, 1) := by decide +kernel
theorem dX4_equal_196 : decode cX4_equal 196 = .ok (.iload 7, 2) := by decide +kernel
theorem dX4_equal_198 : decode cX4_equal 198 = .ok (.invokevirtual 250, 3) := by decide +kernel
theorem dX4_equal_201 : decode cX4_equal 201 = .ok (.putfield 109, 3) := by decide +kernel
theorem dX4_equal_204 : decode cX4_equal 204 = .ok (.iconst 0, 1) := by decide +kernel
theorem dX4_equal_205 : decode cX4_equal 205 = .ok (.ireturn, 1) := by decide +kernel
theorem dX4_equal_206 : decode cX4_equal 206 = .ok (.iinc 3 1, 3) := by decide +kernel
theorem dX4_equal_209 : decode cX4_equal 209 = .ok (.goto (-160), 3) := by decide +kernel
theorem dX4_equal_212 : decode cX4_equal 212 = .ok (.iconst 1, 1) := by decide +kernel
theorem dX4_equal_213 : decode cX4_equal 213 = .ok (.ireturn, 1) := by decide +kernel
theorem dX4_parting_0 : decode cX4_parting 0 = .ok (.iload_n 1, 1) := by decide +kernel
theorem dX4_parting_1 : decode cX4_parting 1 = .ok (.ifCond .ne 10, 3) := by decide +kernel
theorem dX4_parting_4 : decode cX4_parting 4 = .ok (.aload_n 0, 1) := by decide +kernel
theorem dX4_parting_5 : decode cX4_parting 5 = .ok (.getfield 106, 3) := by decide +kernel
theorem dX4_parting_8 : decode cX4_parting 8 = .ok (.goto 17, 3) := by decide +kernel
theorem dX4_parting_11 : decode cX4_parting 11 = .ok (.iload_n 1, 1) := by decide +kernel
theorem dX4_parting_12 : decode cX4_parting 12 = .ok (.iconst 1, 1) := by decide +kernel
theorem dX4_parting_13 : decode cX4_parting 13 = .ok (.if_icmp .ne 10, 3) := by decide +kernel
theorem dX4_parting_16 : decode cX4_parting 16 = .ok (.aload_n 0, 1) := by decide +kernel
theorem dX4_parting_17 : decode cX4_parting 17 = .ok (.getfield 109, 3) := by decide +kernel
theorem dX4_parting_20 : decode cX4_parting 20 = .ok (.goto 5, 3) := by decide +kernel
theorem dX4_parting_23 : decode cX4_parting 23 = .ok (.bipush (-2), 2) := by decide +kernel
theorem dX4_parting_25 : decode cX4_parting 25 = .ok (.ireturn, 1) := by decide +kernel
theorem dX4_told_0 : decode cX4_told 0 = .ok (.iload_n 1, 1) := by decide +kernel
theorem dX4_told_1 : decode cX4_told 1 = .ok (.iconst 0, 1) := by decide +kernel
theorem dX4_told_2 : decode cX4_told 2 = .ok (.bipush 7, 2) := by decide +kernel
theorem dX4_told_4 : decode cX4_told 4 = .ok (.invokestatic 112, 3) := by decide +kernel
theorem dX4_told_7 : decode cX4_told 7 = .ok (.ifCond .ne 6, 3) := by decide +kernel
theorem dX4_told_10 : decode cX4_told 10 = .ok (.bipush (-2), 2) := by decide +kernel
theorem dX4_told_12 : decode cX4_told 12 = .ok (.ireturn, 1) := by decide +kernel
theorem dX4_told_13 : decode cX4_told 13 = .ok (.iload_n 1, 1) := by decide +kernel
theorem dX4_told_14 : decode cX4_told 14 = .ok (.bipush 6, 2) := by decide +kernel
theorem dX4_told_16 : decode cX4_told 16 = .ok (.if_icmp .ge 26, 3) := by decide +kernel
theorem dX4_told_19 : decode cX4_told 19 = .ok (.iload_n 1, 1) := by decide +kernel
theorem dX4_told_20 : decode cX4_told 20 = .ok (.iconst 3, 1) := by decide +kernel
theorem dX4_told_21 : decode cX4_told 21 = .ok (.if_icmp .ge 12, 3) := by decide +kernel
theorem dX4_told_24 : decode cX4_told 24 = .ok (.aload_n 0, 1) := by decide +kernel
theorem dX4_told_25 : decode cX4_told 25 = .ok (.getfield 7, 3) := by decide +kernel
theorem dX4_told_28 : decode cX4_told 28 = .ok (.iload_n 1, 1) := by decide +kernel
theorem dX4_told_29 : decode cX4_told 29 = .ok (.iaload, 1) := by decide +kernel
theorem dX4_told_30 : decode cX4_told 30 = .ok (.goto 11, 3) := by decide +kernel
theorem dX4_told_33 : decode cX4_told 33 = .ok (.aload_n 0, 1) := by decide +kernel
theorem dX4_told_34 : decode cX4_told 34 = .ok (.getfield 13, 3) := by decide +kernel
theorem dX4_told_37 : decode cX4_told 37 = .ok (.iload_n 1, 1) := by decide +kernel
theorem dX4_told_38 : decode cX4_told 38 = .ok (.iconst 3, 1) := by decide +kernel
theorem dX4_told_39 : decode cX4_told 39 = .ok (.isub, 1) := by decide +kernel
theorem dX4_told_40 : decode cX4_told 40 = .ok (.iaload, 1) := by decide +kernel
theorem dX4_told_41 : decode cX4_told 41 = .ok (.ireturn, 1) := by decide +kernel
theorem dX4_told_42 : decode cX4_told 42 = .ok (.iconst 0, 1) := by decide +kernel
theorem dX4_told_43 : decode cX4_told 43 = .ok (.istore_n 2, 1) := by decide +kernel
theorem dX4_told_44 : decode cX4_told 44 = .ok (.iconst 0, 1) := by decide +kernel
theorem dX4_told_45 : decode cX4_told 45 = .ok (.istore_n 3, 1) := by decide +kernel
theorem dX4_told_46 : decode cX4_told 46 = .ok (.iload_n 3, 1) := by decide +kernel
theorem dX4_told_47 : decode cX4_told 47 = .ok (.bipush 12, 2) := by decide +kernel
theorem dX4_told_49 : decode cX4_told 49 = .ok (.if_icmp .ge 26, 3) := by decide +kernel
theorem dX4_told_52 : decode cX4_told 52 = .ok (.iload_n 2, 1) := by decide +kernel
theorem dX4_told_53 : decode cX4_told 53 = .ok (.aload_n 0, 1) := by decide +kernel
theorem dX4_told_54 : decode cX4_told 54 = .ok (.getfield 44, 3) := by decide +kernel
theorem dX4_told_57 : decode cX4_told 57 = .ok (.iload_n 3, 1) := by decide +kernel
theorem dX4_told_58 : decode cX4_told 58 = .ok (.baload, 1) := by decide +kernel
theorem dX4_told_59 : decode cX4_told 59 = .ok (.ifCond .eq 7, 3) := by decide +kernel
theorem dX4_told_62 : decode cX4_told 62 = .ok (.iconst 1, 1) := by decide +kernel
theorem dX4_told_63 : decode cX4_told 63 = .ok (.goto 4, 3) := by decide +kernel
theorem dX4_told_66 : decode cX4_told 66 = .ok (.iconst 0, 1) := by decide +kernel
theorem dX4_told_67 : decode cX4_told 67 = .ok (.iadd, 1) := by decide +kernel
theorem dX4_told_68 : decode cX4_told 68 = .ok (.istore_n 2, 1) := by decide +kernel
theorem dX4_told_69 : decode cX4_told 69 = .ok (.iinc 3 1, 3) := by decide +kernel
theorem dX4_told_72 : decode cX4_told 72 = .ok (.goto (-26), 3) := by decide +kernel
theorem dX4_told_75 : decode cX4_told 75 = .ok (.iload_n 1, 1) := by decide +kernel
theorem dX4_told_76 : decode cX4_told 76 = .ok (.bipush 6, 2) := by decide +kernel
theorem dX4_told_78 : decode cX4_told 78 = .ok (.if_icmp .ne 7, 3) := by decide +kernel
theorem dX4_told_81 : decode cX4_told 81 = .ok (.iload_n 2, 1) := by decide +kernel
theorem dX4_told_82 : decode cX4_told 82 = .ok (.goto 7, 3) := by decide +kernel
theorem dX4_told_85 : decode cX4_told 85 = .ok (.aload_n 0, 1) := by decide +kernel
theorem dX4_told_86 : decode cX4_told 86 = .ok (.getfield 102, 3) := by decide +kernel
theorem dX4_told_89 : decode cX4_told 89 = .ok (.ireturn, 1) := by decide +kernel
end
section
theorem inlX0 : ∀ w ∈ wsX00, w ∈ wsL_law := fun _ h => List.mem_append_left _ (List.mem_append_right _ h)
theorem inlX1 : ∀ w ∈ wsX10, w ∈ wsL_law := fun _ h => List.mem_append_left _ (List.mem_append_left _ (List.mem_append_left _ (List.mem_append_right _ h)))
theorem inlX2 : ∀ w ∈ wsX20, w ∈ wsL_law := fun _ h => List.mem_append_left _ (List.mem_append_left _ (List.mem_append_right _ h))
theorem inlX3 : ∀ w ∈ wsX30, w ∈ wsL_law := fun _ h => List.mem_append_left _ (List.mem_append_left _ (List.mem_append_left _ (List.mem_append_left _ (List.mem_append_left _ (List.mem_append_right _ h)))))
theorem inlX4 : ∀ w ∈ wsX40, w ∈ wsL_law := fun _ h => List.mem_append_left _ (List.mem_append_left _ (List.mem_append_left _ (List.mem_append_left _ (List.mem_append_right _ h))))
/-- the words that every method of ours is walked under -/
def tl_W : List Cond := wsL_law
theorem tl_inW {w : Cond} (h : w ∈ wsL_law) : w ∈ tl_W := h

/-! ===== T-LAYER: a light walk. G: launch, class numbers and slots, array classes, base, first heap, read-only int arrays; a state: shapes, ints, longs, references, heap size ===== -/
abbrev tl_cl : List vw_C := [(RX0, TX0, 6), (RX1, TX1, 3), (RX2, TX2, 9), (RX3, TX3, 11), (RX4, TX4, 35)]
def tl_ty : Nat → Nat → FieldType := fun ci => match ci with
  | 0 => tyX0
  | 1 => tyX1
  | 2 => tyX2
  | 3 => tyX3
  | _ => tyX4
abbrev tl_G : Type := Launch × va_G × (Nat → ClassId) × Nat × Heap × (Nat → Nat × Nat × (Nat → Int32))
abbrev tl_S : Type := (Nat → Nat × Nat) × (Nat → Nat → Int32) × (Nat → Nat → Int64) × (Nat → Nat → Option Nat) × Nat
abbrev tl_M : Type := String × ByteArray × Nat × Option FieldType × String
abbrev gL (G : tl_G) : Launch := G.1
abbrev gD (G : tl_G) : va_G := G.2.1
abbrev gA (G : tl_G) : Nat → ClassId := G.2.2.1
abbrev gB (G : tl_G) : Nat := G.2.2.2.1
abbrev gH (G : tl_G) : Heap := G.2.2.2.2.1
abbrev gR (G : tl_G) : Nat → Nat × Nat × (Nat → Int32) := G.2.2.2.2.2
abbrev sS (σ : tl_S) : Nat → Nat × Nat := σ.1
abbrev sM (σ : tl_S) : Nat → Nat → Int32 := σ.2.1
abbrev sJ (σ : tl_S) : Nat → Nat → Int64 := σ.2.2.1
abbrev sP (σ : tl_S) : Nat → Nat → Option Nat := σ.2.2.2.1
abbrev sZ (σ : tl_S) : Nat := σ.2.2.2.2
def up2 {α : Type} (M : Nat → Nat → α) (a j : Nat) (v : α) : Nat → Nat → α := fun a' j' => if a' = a then (if j' = j then v else M a' j') else M a' j'
theorem up2_o {α : Type} {M : Nat → Nat → α} {a j a' : Nat} {v : α} (h : a' ≠ a) : up2 M a j v a' = M a' := by
  funext j'
  simp [up2, h]
theorem up2_s {α : Type} {M : Nat → Nat → α} {a j : Nat} {v : α} : up2 M a j v a j = v := by simp [up2]
theorem up2_n {α : Type} {M : Nat → Nat → α} {a j j' : Nat} {v : α} (h : j' ≠ j) : up2 M a j v a j' = M a j' := by simp [up2, h]
def up1 {α : Type} (f : Nat → α) (a : Nat) (v : α) : Nat → α := fun a' => if a' = a then v else f a'
theorem up1_o {α : Type} {f : Nat → α} {a a' : Nat} {v : α} (h : a' ≠ a) : up1 f a v a' = f a' := by simp [up1, h]
theorem up1_s {α : Type} {f : Nat → α} {a : Nat} {v : α} : up1 f a v a = v := by simp [up1]
def tl_fv (ty : FieldType) (x : Int32) (y : Int64) (r : Option Nat) : Value := match ty with
  | .int => .int x
  | .boolean => .int x
  | .long => .long y
  | .object _ => va_rf r
  | .array _ => va_rf r
  | _ => .null
/-- a cell by its shape: 1 an object of a class, 2 int[], 3 boolean[], 4 long[], 5 and on an array of references -/
def tl_at (G : tl_G) (t n a : Nat) (x : Nat → Int32) (y : Nat → Int64) (r : Nat → Option Nat) (H : Heap) : Prop := match t with
  | 0 => True
  | 1 => ∃ q, tl_cl[n]? = some q ∧ t_OB a ((gD G).1 n) q.2.2 ((gD G).2 n) H (fun k => tl_fv (tl_ty n k) (x k) (y k) (r k))
  | 2 => H[a]? = some (arrV (gA G 0) n (fun j => .int (x j)))
  | 3 => H[a]? = some (arrV (gA G 1) n (fun j => .int (x j)))
  | 4 => H[a]? = some (arrV (gA G 2) n (fun j => .long (y j)))
  | _ => H[a]? = some (arrV (gA G 3) n (fun j => va_rf (r j)))
def tl_cell (G : tl_G) (σ : tl_S) (a : Nat) (H : Heap) : Prop := tl_at G (sS σ a).1 (sS σ a).2 a (sM σ a) (sJ σ a) (sP σ a) H
def tl_H (G : tl_G) (σ : tl_S) (H : Heap) : Prop := H.size = sZ σ ∧ gB G ≤ sZ σ ∧ (∀ q, q < gB G → H[q]? = (gH G)[q]?) ∧ (∀ a, a < gB G → (sS σ a).1 = 0) ∧ ∀ a, tl_cell G σ a H
def tl_tys (G : tl_G) : List (ClassId × FieldType) := [(gA G 0, .int), (gA G 1, .boolean), (gA G 2, .long), (gA G 3, .object RX0)]
def tl_sf : Nat → String × String × String := fun i => match i with
  | 1 => ("DiagramBench", "OPERANDS", "[I")
  | _ => ("DiagramBench", "TABLES", "[I")
def tl_si (i : Nat) : Nat := if i = 1 then 31 else 45
def tl_N (s : State) : Prop := va_Nw (.fieldLinkNest RX0 31 "DiagramBench" "OPERANDS" "[I" "DiagramBench") s ∧ va_Nw (.fieldLinkNest RX0 45 "DiagramBench" "TABLES" "[I" "DiagramBench") s
/-- an int array of at least L, its first L as told -/
def tl_X (b L : Nat) (xs : Nat → Int32) (U : State) (H : Heap) : Prop := ∃ scr : Cell, H[b]? = some scr ∧ U.isArrayOf scr .int ∧ scr.vm ≠ .unknown ∧ L ≤ scr.slots.size ∧ ∀ j : Nat, j < L → scr.slots[j]? = some (.int (xs j))
theorem tl_X_moved {b L : Nat} {xs : Nat → Int32} {u U : State} {H : Heap} (hvm : u.vm.Alike U.vm) (h : tl_X b L xs u H) : tl_X b L xs U H := by
  obtain ⟨scr, h1, h2, h3⟩ := h
  exact ⟨scr, h1, State.isArrayOf_alike hvm h2, h3⟩
def tl_K (G : tl_G) (s : State) : Prop := va_K (gD G) tl_cl (tl_tys G) s ∧ (∀ i, i < 3 → tl_X (gR G i).1 (gR G i).2.1 (gR G i).2.2 s (gH G) ∧ (gR G i).1 < gB G) ∧ (∀ i, 1 ≤ i → i < 3 → va_Z (tl_sf i).1 (tl_sf i).2.1 (tl_sf i).2.2 (.ref (gR G i).1) (fun q => gB G ≤ q) s (gH G)) ∧ va_AO RX0 s ∧ tl_N s ∧ va_X (gR G 0).1 (gR G 0).2.1 (gR G 0).2.2 s (gH G)
theorem tl_K_moved {G : tl_G} {u U : State} (hW : u.WarmedH U.vm) (h : tl_K G u) : tl_K G U := ⟨va_K.moved hW.alike h.1, fun i hi => ⟨tl_X_moved hW.alike (h.2.1 i hi).1, (h.2.1 i hi).2⟩, fun i h1 h2 => va_Z.moved hW.alike (h.2.2.1 i h1 h2), va_AO.moved hW.alike h.2.2.2.1, ⟨va_Nw.warmF hW h.2.2.2.2.1.1, va_Nw.warmF hW h.2.2.2.2.1.2⟩, va_X.moved hW.alike h.2.2.2.2.2⟩
theorem tl_K_same {G : tl_G} {u U : State} (hvm : u.vm = U.vm) (h : tl_K G u) : tl_K G U := by
  have ha : u.vm.Alike U.vm := by rw [hvm]; exact Vm.Alike.refl U.vm
  exact ⟨va_K.moved ha h.1, fun i hi => ⟨tl_X_moved ha (h.2.1 i hi).1, (h.2.1 i hi).2⟩, fun i h1 h2 => va_Z.moved ha (h.2.2.1 i h1 h2), va_AO.moved ha h.2.2.2.1, ⟨va_Nw.same rfl hvm h.2.2.2.2.1.1, va_Nw.same rfl hvm h.2.2.2.2.1.2⟩, va_X.moved ha h.2.2.2.2.2⟩
theorem tl_at_lt {G : tl_G} {t n a : Nat} {x : Nat → Int32} {y : Nat → Int64} {r : Nat → Option Nat} {H : Heap} (h : tl_at G t n a x y r H) (ht : t ≠ 0) : a < H.size := by
  match t, h, ht with
  | 0, _, ht => exact absurd rfl ht
  | 1, h, _ =>
    obtain ⟨q, -, cell, h2, -⟩ := h
    exact (Array.getElem?_eq_some_iff.mp h2).1
  | 2, h, _ => exact (Array.getElem?_eq_some_iff.mp h).1
  | 3, h, _ => exact (Array.getElem?_eq_some_iff.mp h).1
  | 4, h, _ => exact (Array.getElem?_eq_some_iff.mp h).1
  | t + 5, h, _ => exact (Array.getElem?_eq_some_iff.mp h).1
theorem tl_at_kept {G : tl_G} {t n a : Nat} {x : Nat → Int32} {y : Nat → Int64} {r : Nat → Option Nat} {H H1 : Heap} (h : tl_at G t n a x y r H) (hq : H1[a]? = H[a]?) : tl_at G t n a x y r H1 := by
  match t, h with
  | 0, _ => trivial
  | 1, h =>
    obtain ⟨q, h1, h2⟩ := h
    exact ⟨q, h1, h2.kept hq⟩
  | 2, h => exact hq.trans h
  | 3, h => exact hq.trans h
  | 4, h => exact hq.trans h
  | t + 5, h => exact hq.trans h
/-- the locals -/
def tl_lh (ls : Array Slot) (nL : Nat) (L : List (Option Value)) : Prop := ls.size = nL ∧ lv_wf ls ∧ ∀ (i : Nat) (v : Value), L[i]? = some (some v) → ls[i]? = some (.val v)
def tl_nl (L : List (Option Value)) (i : Nat) : Bool := match i with
  | 0 => true
  | i + 1 => match L[i]? with
    | some (some v) => v.category == 1
    | _ => true
def tl_pairs (L : List (Option Value)) : List (Nat × Value) := (List.range L.length).filterMap (fun i => match L[i]? with
  | some (some v) => some (i, v)
  | _ => none)
theorem tl_pairs_mem {L : List (Option Value)} {i : Nat} {v : Value} : (i, v) ∈ tl_pairs L ↔ L[i]? = some (some v) := by
  unfold tl_pairs
  rw [List.mem_filterMap]
  constructor
  · rintro ⟨k, hk, h⟩
    split at h
    · rename_i w hw
      cases h
      exact hw
    · cases h
  · intro h
    refine ⟨i, List.mem_range.mpr (List.getElem?_eq_some_iff.mp h).1, ?_⟩
    rw [h]
theorem tl_has {ls : Array Slot} {nL : Nat} {L : List (Option Value)} (h : tl_lh ls nL L) : lv_has ls nL (tl_pairs L) := ⟨h.1, h.2.1, fun q hq => h.2.2 q.1 q.2 (tl_pairs_mem.mp hq)⟩
theorem tl_st1 {ls : Array Slot} {nL i : Nat} {L : List (Option Value)} {v : Value} (hn : tl_nl L i = true) (h : lv_has ls nL ((i, v) :: (tl_pairs L).filter (fun q => !(q.1 == i) && !(q.1 + 1 == i && q.2.category == 2)))) : tl_lh ls nL (L.set i (some v)) := by
  refine ⟨h.1, h.2.1, fun j w hj => ?_⟩
  rw [List.getElem?_set] at hj
  by_cases hij : i = j
  · subst hij
    rw [if_pos rfl] at hj
    split at hj
    · cases hj
      exact h.2.2 (i, v) List.mem_cons_self
    · cases hj
  · rw [if_neg hij] at hj
    refine h.2.2 (j, w) (List.mem_cons_of_mem _ (List.mem_filter.mpr ⟨tl_pairs_mem.mpr hj, ?_⟩))
    have e1 : (j == i) = false := by simp [Ne.symm hij]
    simp only [e1, Bool.not_false, Bool.true_and, Bool.not_eq_true', Bool.and_eq_false_iff]
    by_cases h2 : j + 1 = i
    · subst h2
      right
      unfold tl_nl at hn
      simp only [hj] at hn
      have e2 : w.category = 1 := by simpa using hn
      simp [e2]
    · left
      simpa using h2
theorem tl_st2 {ls : Array Slot} {nL i : Nat} {L : List (Option Value)} {v : Value} (hn : tl_nl L i = true) (h : lv_has ls nL ((i, v) :: (tl_pairs L).filter (fun q => !(q.1 == i) && (!(q.1 == i + 1) && !(q.1 + 1 == i && q.2.category == 2))))) : tl_lh ls nL ((L.set i (some v)).set (i + 1) none) := by
  refine ⟨h.1, h.2.1, fun j w hj => ?_⟩
  rw [List.getElem?_set] at hj
  by_cases hij2 : i + 1 = j
  · rw [if_pos hij2] at hj
    split at hj <;> cases hj
  · rw [if_neg hij2, List.getElem?_set] at hj
    by_cases hij : i = j
    · subst hij
      rw [if_pos rfl] at hj
      split at hj
      · cases hj
        exact h.2.2 (i, v) List.mem_cons_self
      · cases hj
    · rw [if_neg hij] at hj
      refine h.2.2 (j, w) (List.mem_cons_of_mem _ (List.mem_filter.mpr ⟨tl_pairs_mem.mpr hj, ?_⟩))
      have e1 : (j == i) = false := by simp [Ne.symm hij]
      have e3 : (j == i + 1) = false := by simp [Ne.symm hij2]
      simp only [e1, e3, Bool.not_false, Bool.true_and, Bool.not_eq_true', Bool.and_eq_false_iff]
      by_cases h2 : j + 1 = i
      · subst h2
        right
        unfold tl_nl at hn
        simp only [hj] at hn
        have e2 : w.category = 1 := by simpa using hn
        simp [e2]
      · left
        simpa using h2
/-- what stands fixed while a method of ours runs -/
def tl_C (G : tl_G) (mt : tl_M) (p : Program) (s : State) (m : MethodId) (args : Array Value) (meth : Method) (c : Code) : Prop :=
  p.tables.exec = Jvm.exec ∧ c.code = mt.2.1 ∧ c.maxLocals = mt.2.2.1 ∧ meth.sig.returnType = mt.2.2.2.1 ∧ meth.locks = false ∧ meth.name = mt.2.2.2.2 ∧ s.vm.findClass mt.1 = some m.cls ∧ (∀ w ∈ tl_W, w.before args s = true) ∧ tl_K G s
abbrev tl_Z : Type := List Frame → Array Value → State → State → Prop
/-- THE JUDGEMENT: at pc, with locals L and stack st, over the state σ, the method comes to Z -/
def TW (G : tl_G) (mt : tl_M) (R : Room) (cells slots pc : Nat) (L : List (Option Value)) (st : List Value) (σ : tl_S) (Z : tl_Z) : Prop :=
  ∀ (p : Program) (e : Env) (s : State) (m : MethodId) (args : Array Value) (below : List Frame) (meth : Method) (c : Code) (H : Heap) (locs : List Loc) (ls : Array Slot), tl_C G mt p s m args meth c → tl_H G σ H → (∀ q ∈ locs, gB G ≤ q.base) → tl_lh ls mt.2.2.1 L →
    W p (gL G) e R s m args below meth c H locs cells slots (Z below args s) (F0 m pc ls st)
section TL
variable {G : tl_G} {mt : tl_M} {R : Room} {cells slots pc n : Nat} {L : List (Option Value)} {st : List Value} {σ : tl_S} {Z : tl_Z}

theorem T_iconst {i : Int} {v : Int32} (hd : decode mt.2.1 pc = .ok (.iconst i, 1)) (hp : pc + 1 = n) (hv : Int32.ofInt i = v) (k : TW G mt R cells slots n L (.int v :: st) σ Z) : TW G mt R cells slots pc L st σ Z := by
  subst hp
  intro p e s m args below meth c H locs ls hC hH hlo hl
  exact lv_iconst hC.1 hC.2.1 hd hv (k p e s m args below meth c H locs ls hC hH hlo hl)
theorem T_bipush {i : Int} {v : Int32} (hd : decode mt.2.1 pc = .ok (.bipush i, 2)) (hp : pc + 2 = n) (hv : (Int8.ofInt i).toInt32 = v) (k : TW G mt R cells slots n L (.int v :: st) σ Z) : TW G mt R cells slots pc L st σ Z := by
  subst hp
  intro p e s m args below meth c H locs ls hC hH hlo hl
  exact lv_bipush hC.1 hC.2.1 hd hv (k p e s m args below meth c H locs ls hC hH hlo hl)
theorem T_sipush {i : Int} {v : Int32} (hd : decode mt.2.1 pc = .ok (.sipush i, 3)) (hp : pc + 3 = n) (hv : (Int16.ofInt i).toInt32 = v) (k : TW G mt R cells slots n L (.int v :: st) σ Z) : TW G mt R cells slots pc L st σ Z := by
  subst hp
  intro p e s m args below meth c H locs ls hC hH hlo hl
  exact lv_sipush hC.1 hC.2.1 hd hv (k p e s m args below meth c H locs ls hC hH hlo hl)
theorem T_lconst {i : Fin 2} {v : Int64} (hd : decode mt.2.1 pc = .ok (.lconst i, 1)) (hp : pc + 1 = n) (hv : Int64.ofNat (i : Nat) = v) (k : TW G mt R cells slots n L (.long v :: st) σ Z) : TW G mt R cells slots pc L st σ Z := by
  subst hp
  intro p e s m args below meth c H locs ls hC hH hlo hl
  exact lv_lconst hC.1 hC.2.1 hd hv (k p e s m args below meth c H locs ls hC hH hlo hl)
theorem T_ldc2 {i : Nat} {v : Int64} (hd : decode mt.2.1 pc = .ok (.ldc2_w i, 3)) (hp : pc + 3 = n) (hw : Cond.constantLong mt.1 i v ∈ tl_W) (k : TW G mt R cells slots n L (.long v :: st) σ Z) : TW G mt R cells slots pc L st σ Z := by
  subst hp
  intro p e s m args below meth c H locs ls hC hH hlo hl
  exact lv_ldc2 hC.1 hC.2.1 hC.2.2.2.2.2.2.1 (hC.2.2.2.2.2.2.2.1 _ hw) hd (k p e s m args below meth c H locs ls hC hH hlo hl)
theorem T_iload_n {i : Fin 4} {x : Int32} (hd : decode mt.2.1 pc = .ok (.iload_n i, 1)) (hp : pc + 1 = n) (hl0 : L[(i : Nat)]? = some (some (.int x))) (k : TW G mt R cells slots n L (.int x :: st) σ Z) : TW G mt R cells slots pc L st σ Z := by
  subst hp
  intro p e s m args below meth c H locs ls hC hH hlo hl
  exact lv_iload_n hC.1 hC.2.1 hd rfl (hl.2.2 _ _ hl0) (k p e s m args below meth c H locs ls hC hH hlo hl)
theorem T_iload {i : Nat} {x : Int32} (hd : decode mt.2.1 pc = .ok (.iload i, 2)) (hp : pc + 2 = n) (hl0 : L[i]? = some (some (.int x))) (k : TW G mt R cells slots n L (.int x :: st) σ Z) : TW G mt R cells slots pc L st σ Z := by
  subst hp
  intro p e s m args below meth c H locs ls hC hH hlo hl
  exact lv_iload hC.1 hC.2.1 hd (hl.2.2 _ _ hl0) (k p e s m args below meth c H locs ls hC hH hlo hl)
theorem T_aload_n {i : Fin 4} {x : Nat} (hd : decode mt.2.1 pc = .ok (.aload_n i, 1)) (hp : pc + 1 = n) (hl0 : L[(i : Nat)]? = some (some (.ref x))) (k : TW G mt R cells slots n L (.ref x :: st) σ Z) : TW G mt R cells slots pc L st σ Z := by
  subst hp
  intro p e s m args below meth c H locs ls hC hH hlo hl
  exact lv_aload_n hC.1 hC.2.1 hd rfl (hl.2.2 _ _ hl0) (k p e s m args below meth c H locs ls hC hH hlo hl)
theorem T_aload {i : Nat} {x : Nat} (hd : decode mt.2.1 pc = .ok (.aload i, 2)) (hp : pc + 2 = n) (hl0 : L[i]? = some (some (.ref x))) (k : TW G mt R cells slots n L (.ref x :: st) σ Z) : TW G mt R cells slots pc L st σ Z := by
  subst hp
  intro p e s m args below meth c H locs ls hC hH hlo hl
  exact lv_aload hC.1 hC.2.1 hd (hl.2.2 _ _ hl0) (k p e s m args below meth c H locs ls hC hH hlo hl)
theorem T_lload_n {i : Fin 4} {x : Int64} (hd : decode mt.2.1 pc = .ok (.lload_n i, 1)) (hp : pc + 1 = n) (hl0 : L[(i : Nat)]? = some (some (.long x))) (k : TW G mt R cells slots n L (.long x :: st) σ Z) : TW G mt R cells slots pc L st σ Z := by
  subst hp
  intro p e s m args below meth c H locs ls hC hH hlo hl
  exact lv_lload_n hC.1 hC.2.1 hd rfl (hl.2.2 _ _ hl0) (k p e s m args below meth c H locs ls hC hH hlo hl)
theorem T_lload {i : Nat} {x : Int64} (hd : decode mt.2.1 pc = .ok (.lload i, 2)) (hp : pc + 2 = n) (hl0 : L[i]? = some (some (.long x))) (k : TW G mt R cells slots n L (.long x :: st) σ Z) : TW G mt R cells slots pc L st σ Z := by
  subst hp
  intro p e s m args below meth c H locs ls hC hH hlo hl
  exact lv_lload hC.1 hC.2.1 hd (hl.2.2 _ _ hl0) (k p e s m args below meth c H locs ls hC hH hlo hl)
theorem T_istore {i : Nat} {x : Int32} (hd : decode mt.2.1 pc = .ok (.istore i, 2)) (hp : pc + 2 = n) (hn : i < mt.2.2.1) (hk : tl_nl L i = true) (k : TW G mt R cells slots n (L.set i (some (.int x))) st σ Z) : TW G mt R cells slots pc L (.int x :: st) σ Z := by
  subst hp
  intro p e s m args below meth c H locs ls hC hH hlo hl
  exact lv_istore hC.1 hC.2.1 hd (tl_has hl) hn rfl (fun ls' h' => k p e s m args below meth c H locs ls' hC hH hlo (tl_st1 hk h'))
theorem T_istore_n {i : Fin 4} {x : Int32} (hd : decode mt.2.1 pc = .ok (.istore_n i, 1)) (hp : pc + 1 = n) (hn : (i : Nat) < mt.2.2.1) (hk : tl_nl L (i : Nat) = true) (k : TW G mt R cells slots n (L.set (i : Nat) (some (.int x))) st σ Z) : TW G mt R cells slots pc L (.int x :: st) σ Z := by
  subst hp
  intro p e s m args below meth c H locs ls hC hH hlo hl
  exact lv_istore_n hC.1 hC.2.1 hd rfl (tl_has hl) hn rfl (fun ls' h' => k p e s m args below meth c H locs ls' hC hH hlo (tl_st1 hk h'))
theorem T_astore {i : Nat} {x : Nat} (hd : decode mt.2.1 pc = .ok (.astore i, 2)) (hp : pc + 2 = n) (hn : i < mt.2.2.1) (hk : tl_nl L i = true) (k : TW G mt R cells slots n (L.set i (some (.ref x))) st σ Z) : TW G mt R cells slots pc L (.ref x :: st) σ Z := by
  subst hp
  intro p e s m args below meth c H locs ls hC hH hlo hl
  exact lv_astore hC.1 hC.2.1 hd (tl_has hl) hn rfl (fun ls' h' => k p e s m args below meth c H locs ls' hC hH hlo (tl_st1 hk h'))
theorem T_astore_n {i : Fin 4} {x : Nat} (hd : decode mt.2.1 pc = .ok (.astore_n i, 1)) (hp : pc + 1 = n) (hn : (i : Nat) < mt.2.2.1) (hk : tl_nl L (i : Nat) = true) (k : TW G mt R cells slots n (L.set (i : Nat) (some (.ref x))) st σ Z) : TW G mt R cells slots pc L (.ref x :: st) σ Z := by
  subst hp
  intro p e s m args below meth c H locs ls hC hH hlo hl
  exact lv_astore_n hC.1 hC.2.1 hd rfl (tl_has hl) hn rfl (fun ls' h' => k p e s m args below meth c H locs ls' hC hH hlo (tl_st1 hk h'))
theorem T_lstore {i : Nat} {x : Int64} (hd : decode mt.2.1 pc = .ok (.lstore i, 2)) (hp : pc + 2 = n) (hn : i + 1 < mt.2.2.1) (hk : tl_nl L i = true) (k : TW G mt R cells slots n ((L.set i (some (.long x))).set (i + 1) none) st σ Z) : TW G mt R cells slots pc L (.long x :: st) σ Z := by
  subst hp
  intro p e s m args below meth c H locs ls hC hH hlo hl
  exact lv_lstore hC.1 hC.2.1 hd (tl_has hl) hn rfl (fun ls' h' => k p e s m args below meth c H locs ls' hC hH hlo (tl_st2 hk h'))
theorem T_lstore_n {i : Fin 4} {x : Int64} (hd : decode mt.2.1 pc = .ok (.lstore_n i, 1)) (hp : pc + 1 = n) (hn : (i : Nat) + 1 < mt.2.2.1) (hk : tl_nl L (i : Nat) = true) (k : TW G mt R cells slots n ((L.set (i : Nat) (some (.long x))).set ((i : Nat) + 1) none) st σ Z) : TW G mt R cells slots pc L (.long x :: st) σ Z := by
  subst hp
  intro p e s m args below meth c H locs ls hC hH hlo hl
  exact lv_lstore_n hC.1 hC.2.1 hd rfl (tl_has hl) hn rfl (fun ls' h' => k p e s m args below meth c H locs ls' hC hH hlo (tl_st2 hk h'))
theorem T_iinc {i : Nat} {d : Int} {x : Int32} (hd : decode mt.2.1 pc = .ok (.iinc i d, 3)) (hp : pc + 3 = n) (hl0 : L[i]? = some (some (.int x))) (hn : i < mt.2.2.1) (hk : tl_nl L i = true) (k : TW G mt R cells slots n (L.set i (some (.int (x + Int32.ofInt d)))) st σ Z) : TW G mt R cells slots pc L st σ Z := by
  subst hp
  intro p e s m args below meth c H locs ls hC hH hlo hl
  obtain ⟨j, hj⟩ := List.getElem?_of_mem (tl_pairs_mem.mpr hl0)
  exact lv_iinc hC.1 hC.2.1 hd (tl_has hl) hj rfl hn rfl (fun ls' h' => k p e s m args below meth c H locs ls' hC hH hlo (tl_st1 hk h'))
theorem T_iadd {x y : Int32} (hd : decode mt.2.1 pc = .ok (.iadd, 1)) (hp : pc + 1 = n) (k : TW G mt R cells slots n L (.int (x + y) :: st) σ Z) : TW G mt R cells slots pc L (.int y :: .int x :: st) σ Z := by
  subst hp
  intro p e s m args below meth c H locs ls hC hH hlo hl
  exact lv_iadd hC.1 hC.2.1 hd (k p e s m args below meth c H locs ls hC hH hlo hl)
theorem T_isub {x y : Int32} (hd : decode mt.2.1 pc = .ok (.isub, 1)) (hp : pc + 1 = n) (k : TW G mt R cells slots n L (.int (x - y) :: st) σ Z) : TW G mt R cells slots pc L (.int y :: .int x :: st) σ Z := by
  subst hp
  intro p e s m args below meth c H locs ls hC hH hlo hl
  exact lv_isub hC.1 hC.2.1 hd (k p e s m args below meth c H locs ls hC hH hlo hl)
theorem T_imul {x y : Int32} (hd : decode mt.2.1 pc = .ok (.imul, 1)) (hp : pc + 1 = n) (k : TW G mt R cells slots n L (.int (x * y) :: st) σ Z) : TW G mt R cells slots pc L (.int y :: .int x :: st) σ Z := by
  subst hp
  intro p e s m args below meth c H locs ls hC hH hlo hl
  exact lv_imul hC.1 hC.2.1 hd (k p e s m args below meth c H locs ls hC hH hlo hl)
theorem T_iand {x y : Int32} (hd : decode mt.2.1 pc = .ok (.iand, 1)) (hp : pc + 1 = n) (k : TW G mt R cells slots n L (.int (x &&& y) :: st) σ Z) : TW G mt R cells slots pc L (.int y :: .int x :: st) σ Z := by
  subst hp
  intro p e s m args below meth c H locs ls hC hH hlo hl
  exact lv_iand hC.1 hC.2.1 hd (k p e s m args below meth c H locs ls hC hH hlo hl)
theorem T_ior {x y : Int32} (hd : decode mt.2.1 pc = .ok (.ior, 1)) (hp : pc + 1 = n) (k : TW G mt R cells slots n L (.int (x ||| y) :: st) σ Z) : TW G mt R cells slots pc L (.int y :: .int x :: st) σ Z := by
  subst hp
  intro p e s m args below meth c H locs ls hC hH hlo hl
  exact lv_ior hC.1 hC.2.1 hd (k p e s m args below meth c H locs ls hC hH hlo hl)
theorem T_ixor {x y : Int32} (hd : decode mt.2.1 pc = .ok (.ixor, 1)) (hp : pc + 1 = n) (k : TW G mt R cells slots n L (.int (x ^^^ y) :: st) σ Z) : TW G mt R cells slots pc L (.int y :: .int x :: st) σ Z := by
  subst hp
  intro p e s m args below meth c H locs ls hC hH hlo hl
  exact lv_ixor hC.1 hC.2.1 hd (k p e s m args below meth c H locs ls hC hH hlo hl)
theorem T_ishl {x y : Int32} (hd : decode mt.2.1 pc = .ok (.ishl, 1)) (hp : pc + 1 = n) (k : TW G mt R cells slots n L (.int (x <<< (y &&& 31)) :: st) σ Z) : TW G mt R cells slots pc L (.int y :: .int x :: st) σ Z := by
  subst hp
  intro p e s m args below meth c H locs ls hC hH hlo hl
  exact lv_ishl hC.1 hC.2.1 hd (k p e s m args below meth c H locs ls hC hH hlo hl)
theorem T_ishr {x y : Int32} (hd : decode mt.2.1 pc = .ok (.ishr, 1)) (hp : pc + 1 = n) (k : TW G mt R cells slots n L (.int (x >>> (y &&& 31)) :: st) σ Z) : TW G mt R cells slots pc L (.int y :: .int x :: st) σ Z := by
  subst hp
  intro p e s m args below meth c H locs ls hC hH hlo hl
  exact lv_ishr hC.1 hC.2.1 hd (k p e s m args below meth c H locs ls hC hH hlo hl)
theorem T_idiv {x y : Int32} (hd : decode mt.2.1 pc = .ok (.idiv, 1)) (hp : pc + 1 = n) (hne : ¬ y = 0) (k : TW G mt R cells slots n L (.int (x / y) :: st) σ Z) : TW G mt R cells slots pc L (.int y :: .int x :: st) σ Z := by
  subst hp
  intro p e s m args below meth c H locs ls hC hH hlo hl
  exact lv_idiv hC.1 hC.2.1 hd hne (k p e s m args below meth c H locs ls hC hH hlo hl)
theorem T_irem {x y : Int32} (hd : decode mt.2.1 pc = .ok (.irem, 1)) (hp : pc + 1 = n) (hne : ¬ y = 0) (k : TW G mt R cells slots n L (.int (x - x / y * y) :: st) σ Z) : TW G mt R cells slots pc L (.int y :: .int x :: st) σ Z := by
  subst hp
  intro p e s m args below meth c H locs ls hC hH hlo hl
  exact lv_irem hC.1 hC.2.1 hd hne (k p e s m args below meth c H locs ls hC hH hlo hl)
theorem T_ladd {x y : Int64} (hd : decode mt.2.1 pc = .ok (.ladd, 1)) (hp : pc + 1 = n) (k : TW G mt R cells slots n L (.long (x + y) :: st) σ Z) : TW G mt R cells slots pc L (.long y :: .long x :: st) σ Z := by
  subst hp
  intro p e s m args below meth c H locs ls hC hH hlo hl
  exact lv_ladd hC.1 hC.2.1 hd (k p e s m args below meth c H locs ls hC hH hlo hl)
theorem T_lsub {x y : Int64} (hd : decode mt.2.1 pc = .ok (.lsub, 1)) (hp : pc + 1 = n) (k : TW G mt R cells slots n L (.long (x - y) :: st) σ Z) : TW G mt R cells slots pc L (.long y :: .long x :: st) σ Z := by
  subst hp
  intro p e s m args below meth c H locs ls hC hH hlo hl
  exact lv_lsub hC.1 hC.2.1 hd (k p e s m args below meth c H locs ls hC hH hlo hl)
theorem T_lmul {x y : Int64} (hd : decode mt.2.1 pc = .ok (.lmul, 1)) (hp : pc + 1 = n) (k : TW G mt R cells slots n L (.long (x * y) :: st) σ Z) : TW G mt R cells slots pc L (.long y :: .long x :: st) σ Z := by
  subst hp
  intro p e s m args below meth c H locs ls hC hH hlo hl
  exact lv_lmul hC.1 hC.2.1 hd (k p e s m args below meth c H locs ls hC hH hlo hl)
theorem T_land {x y : Int64} (hd : decode mt.2.1 pc = .ok (.land, 1)) (hp : pc + 1 = n) (k : TW G mt R cells slots n L (.long (x &&& y) :: st) σ Z) : TW G mt R cells slots pc L (.long y :: .long x :: st) σ Z := by
  subst hp
  intro p e s m args below meth c H locs ls hC hH hlo hl
  exact lv_land hC.1 hC.2.1 hd (k p e s m args below meth c H locs ls hC hH hlo hl)
theorem T_lor {x y : Int64} (hd : decode mt.2.1 pc = .ok (.lor, 1)) (hp : pc + 1 = n) (k : TW G mt R cells slots n L (.long (x ||| y) :: st) σ Z) : TW G mt R cells slots pc L (.long y :: .long x :: st) σ Z := by
  subst hp
  intro p e s m args below meth c H locs ls hC hH hlo hl
  exact lv_lor hC.1 hC.2.1 hd (k p e s m args below meth c H locs ls hC hH hlo hl)
theorem T_lxor {x y : Int64} (hd : decode mt.2.1 pc = .ok (.lxor, 1)) (hp : pc + 1 = n) (k : TW G mt R cells slots n L (.long (x ^^^ y) :: st) σ Z) : TW G mt R cells slots pc L (.long y :: .long x :: st) σ Z := by
  subst hp
  intro p e s m args below meth c H locs ls hC hH hlo hl
  exact lv_lxor hC.1 hC.2.1 hd (k p e s m args below meth c H locs ls hC hH hlo hl)
theorem T_lshl {x : Int64} {y : Int32} (hd : decode mt.2.1 pc = .ok (.lshl, 1)) (hp : pc + 1 = n) (k : TW G mt R cells slots n L (.long (x <<< (y.toInt64 &&& 63)) :: st) σ Z) : TW G mt R cells slots pc L (.int y :: .long x :: st) σ Z := by
  subst hp
  intro p e s m args below meth c H locs ls hC hH hlo hl
  exact lv_lshl hC.1 hC.2.1 hd rfl (k p e s m args below meth c H locs ls hC hH hlo hl)
theorem T_lshr {x : Int64} {y : Int32} (hd : decode mt.2.1 pc = .ok (.lshr, 1)) (hp : pc + 1 = n) (k : TW G mt R cells slots n L (.long (x >>> (y.toInt64 &&& 63)) :: st) σ Z) : TW G mt R cells slots pc L (.int y :: .long x :: st) σ Z := by
  subst hp
  intro p e s m args below meth c H locs ls hC hH hlo hl
  exact lv_lshr hC.1 hC.2.1 hd rfl (k p e s m args below meth c H locs ls hC hH hlo hl)
theorem T_lushr {x : Int64} {y : Int32} (hd : decode mt.2.1 pc = .ok (.lushr, 1)) (hp : pc + 1 = n) (k : TW G mt R cells slots n L (.long ((x.toUInt64 >>> (y.toInt64.toUInt64 &&& Int64.toUInt64 63)).toInt64) :: st) σ Z) : TW G mt R cells slots pc L (.int y :: .long x :: st) σ Z := by
  subst hp
  intro p e s m args below meth c H locs ls hC hH hlo hl
  exact lv_lushr hC.1 hC.2.1 hd rfl (k p e s m args below meth c H locs ls hC hH hlo hl)
theorem T_lcmp {x y : Int64} (hd : decode mt.2.1 pc = .ok (.lcmp, 1)) (hp : pc + 1 = n) (k : TW G mt R cells slots n L (.int (lg_cmp x y) :: st) σ Z) : TW G mt R cells slots pc L (.long y :: .long x :: st) σ Z := by
  subst hp
  intro p e s m args below meth c H locs ls hC hH hlo hl
  exact W.lcmp hC.1 hC.2.1 hd (k p e s m args below meth c H locs ls hC hH hlo hl)
theorem T_i2l {x : Int32} (hd : decode mt.2.1 pc = .ok (.i2l, 1)) (hp : pc + 1 = n) (k : TW G mt R cells slots n L (.long x.toInt64 :: st) σ Z) : TW G mt R cells slots pc L (.int x :: st) σ Z := by
  subst hp
  intro p e s m args below meth c H locs ls hC hH hlo hl
  exact lv_i2l hC.1 hC.2.1 hd rfl (k p e s m args below meth c H locs ls hC hH hlo hl)
theorem T_l2i {x : Int64} (hd : decode mt.2.1 pc = .ok (.l2i, 1)) (hp : pc + 1 = n) (k : TW G mt R cells slots n L (.int x.toInt32 :: st) σ Z) : TW G mt R cells slots pc L (.long x :: st) σ Z := by
  subst hp
  intro p e s m args below meth c H locs ls hC hH hlo hl
  exact lv_l2i hC.1 hC.2.1 hd rfl (k p e s m args below meth c H locs ls hC hH hlo hl)
theorem T_dup {v : Value} (hd : decode mt.2.1 pc = .ok (.dup, 1)) (hp : pc + 1 = n) (hv : v.category = 1) (k : TW G mt R cells slots n L (v :: v :: st) σ Z) : TW G mt R cells slots pc L (v :: st) σ Z := by
  subst hp
  intro p e s m args below meth c H locs ls hC hH hlo hl
  exact lv_dup hC.1 hC.2.1 hd hv (k p e s m args below meth c H locs ls hC hH hlo hl)
theorem T_pop {v : Value} (hd : decode mt.2.1 pc = .ok (.pop, 1)) (hp : pc + 1 = n) (hv : v.category = 1) (k : TW G mt R cells slots n L st σ Z) : TW G mt R cells slots pc L (v :: st) σ Z := by
  subst hp
  intro p e s m args below meth c H locs ls hC hH hlo hl
  exact lv_pop hC.1 hC.2.1 hd hv (k p e s m args below meth c H locs ls hC hH hlo hl)
theorem T_dup2 {v w : Value} (hd : decode mt.2.1 pc = .ok (.dup2, 1)) (hp : pc + 1 = n) (hv : v.category = 1) (hw : w.category = 1) (k : TW G mt R cells slots n L (v :: w :: v :: w :: st) σ Z) : TW G mt R cells slots pc L (v :: w :: st) σ Z := by
  subst hp
  intro p e s m args below meth c H locs ls hC hH hlo hl
  exact lv_dup2_11 hC.1 hC.2.1 hd hv hw (k p e s m args below meth c H locs ls hC hH hlo hl)
theorem T_if_eq {x : Int32} {off : Int} {t : Nat} (hd : decode mt.2.1 pc = .ok (.ifCond .eq off, 3)) (hp : pc + 3 = n) (ht : (pc : Int) + off = (t : Int)) (kt : x = 0 → TW G mt R cells slots t L st σ Z) (kf : ¬ x = 0 → TW G mt R cells slots n L st σ Z) : TW G mt R cells slots pc L (.int x :: st) σ Z := by
  subst hp
  intro p e s m args below meth c H locs ls hC hH hlo hl
  exact lv_if_eq hC.1 hC.2.1 hd ht (fun h => kt h p e s m args below meth c H locs ls hC hH hlo hl) (fun h => kf h p e s m args below meth c H locs ls hC hH hlo hl)
theorem T_icmp_eq {x y : Int32} {off : Int} {t : Nat} (hd : decode mt.2.1 pc = .ok (.if_icmp .eq off, 3)) (hp : pc + 3 = n) (ht : (pc : Int) + off = (t : Int)) (kt : x = y → TW G mt R cells slots t L st σ Z) (kf : ¬ x = y → TW G mt R cells slots n L st σ Z) : TW G mt R cells slots pc L (.int y :: .int x :: st) σ Z := by
  subst hp
  intro p e s m args below meth c H locs ls hC hH hlo hl
  exact lv_icmp_eq hC.1 hC.2.1 hd ht (fun h => kt h p e s m args below meth c H locs ls hC hH hlo hl) (fun h => kf h p e s m args below meth c H locs ls hC hH hlo hl)
theorem T_if_ne {x : Int32} {off : Int} {t : Nat} (hd : decode mt.2.1 pc = .ok (.ifCond .ne off, 3)) (hp : pc + 3 = n) (ht : (pc : Int) + off = (t : Int)) (kt : ¬ x = 0 → TW G mt R cells slots t L st σ Z) (kf : x = 0 → TW G mt R cells slots n L st σ Z) : TW G mt R cells slots pc L (.int x :: st) σ Z := by
  subst hp
  intro p e s m args below meth c H locs ls hC hH hlo hl
  exact lv_if_ne hC.1 hC.2.1 hd ht (fun h => kt h p e s m args below meth c H locs ls hC hH hlo hl) (fun h => kf h p e s m args below meth c H locs ls hC hH hlo hl)
theorem T_icmp_ne {x y : Int32} {off : Int} {t : Nat} (hd : decode mt.2.1 pc = .ok (.if_icmp .ne off, 3)) (hp : pc + 3 = n) (ht : (pc : Int) + off = (t : Int)) (kt : ¬ x = y → TW G mt R cells slots t L st σ Z) (kf : x = y → TW G mt R cells slots n L st σ Z) : TW G mt R cells slots pc L (.int y :: .int x :: st) σ Z := by
  subst hp
  intro p e s m args below meth c H locs ls hC hH hlo hl
  exact lv_icmp_ne hC.1 hC.2.1 hd ht (fun h => kt h p e s m args below meth c H locs ls hC hH hlo hl) (fun h => kf h p e s m args below meth c H locs ls hC hH hlo hl)
theorem T_if_lt {x : Int32} {off : Int} {t : Nat} (hd : decode mt.2.1 pc = .ok (.ifCond .lt off, 3)) (hp : pc + 3 = n) (ht : (pc : Int) + off = (t : Int)) (kt : x < 0 → TW G mt R cells slots t L st σ Z) (kf : ¬ x < 0 → TW G mt R cells slots n L st σ Z) : TW G mt R cells slots pc L (.int x :: st) σ Z := by
  subst hp
  intro p e s m args below meth c H locs ls hC hH hlo hl
  exact lv_if_lt hC.1 hC.2.1 hd ht (fun h => kt h p e s m args below meth c H locs ls hC hH hlo hl) (fun h => kf h p e s m args below meth c H locs ls hC hH hlo hl)
theorem T_icmp_lt {x y : Int32} {off : Int} {t : Nat} (hd : decode mt.2.1 pc = .ok (.if_icmp .lt off, 3)) (hp : pc + 3 = n) (ht : (pc : Int) + off = (t : Int)) (kt : x < y → TW G mt R cells slots t L st σ Z) (kf : ¬ x < y → TW G mt R cells slots n L st σ Z) : TW G mt R cells slots pc L (.int y :: .int x :: st) σ Z := by
  subst hp
  intro p e s m args below meth c H locs ls hC hH hlo hl
  exact lv_icmp_lt hC.1 hC.2.1 hd ht (fun h => kt h p e s m args below meth c H locs ls hC hH hlo hl) (fun h => kf h p e s m args below meth c H locs ls hC hH hlo hl)
theorem T_if_ge {x : Int32} {off : Int} {t : Nat} (hd : decode mt.2.1 pc = .ok (.ifCond .ge off, 3)) (hp : pc + 3 = n) (ht : (pc : Int) + off = (t : Int)) (kt : 0 ≤ x → TW G mt R cells slots t L st σ Z) (kf : ¬ 0 ≤ x → TW G mt R cells slots n L st σ Z) : TW G mt R cells slots pc L (.int x :: st) σ Z := by
  subst hp
  intro p e s m args below meth c H locs ls hC hH hlo hl
  exact lv_if_ge hC.1 hC.2.1 hd ht (fun h => kt h p e s m args below meth c H locs ls hC hH hlo hl) (fun h => kf h p e s m args below meth c H locs ls hC hH hlo hl)
theorem T_icmp_ge {x y : Int32} {off : Int} {t : Nat} (hd : decode mt.2.1 pc = .ok (.if_icmp .ge off, 3)) (hp : pc + 3 = n) (ht : (pc : Int) + off = (t : Int)) (kt : y ≤ x → TW G mt R cells slots t L st σ Z) (kf : ¬ y ≤ x → TW G mt R cells slots n L st σ Z) : TW G mt R cells slots pc L (.int y :: .int x :: st) σ Z := by
  subst hp
  intro p e s m args below meth c H locs ls hC hH hlo hl
  exact lv_icmp_ge hC.1 hC.2.1 hd ht (fun h => kt h p e s m args below meth c H locs ls hC hH hlo hl) (fun h => kf h p e s m args below meth c H locs ls hC hH hlo hl)
theorem T_if_gt {x : Int32} {off : Int} {t : Nat} (hd : decode mt.2.1 pc = .ok (.ifCond .gt off, 3)) (hp : pc + 3 = n) (ht : (pc : Int) + off = (t : Int)) (kt : 0 < x → TW G mt R cells slots t L st σ Z) (kf : ¬ 0 < x → TW G mt R cells slots n L st σ Z) : TW G mt R cells slots pc L (.int x :: st) σ Z := by
  subst hp
  intro p e s m args below meth c H locs ls hC hH hlo hl
  exact lv_if_gt hC.1 hC.2.1 hd ht (fun h => kt h p e s m args below meth c H locs ls hC hH hlo hl) (fun h => kf h p e s m args below meth c H locs ls hC hH hlo hl)
theorem T_icmp_gt {x y : Int32} {off : Int} {t : Nat} (hd : decode mt.2.1 pc = .ok (.if_icmp .gt off, 3)) (hp : pc + 3 = n) (ht : (pc : Int) + off = (t : Int)) (kt : y < x → TW G mt R cells slots t L st σ Z) (kf : ¬ y < x → TW G mt R cells slots n L st σ Z) : TW G mt R cells slots pc L (.int y :: .int x :: st) σ Z := by
  subst hp
  intro p e s m args below meth c H locs ls hC hH hlo hl
  exact lv_icmp_gt hC.1 hC.2.1 hd ht (fun h => kt h p e s m args below meth c H locs ls hC hH hlo hl) (fun h => kf h p e s m args below meth c H locs ls hC hH hlo hl)
theorem T_if_le {x : Int32} {off : Int} {t : Nat} (hd : decode mt.2.1 pc = .ok (.ifCond .le off, 3)) (hp : pc + 3 = n) (ht : (pc : Int) + off = (t : Int)) (kt : x ≤ 0 → TW G mt R cells slots t L st σ Z) (kf : ¬ x ≤ 0 → TW G mt R cells slots n L st σ Z) : TW G mt R cells slots pc L (.int x :: st) σ Z := by
  subst hp
  intro p e s m args below meth c H locs ls hC hH hlo hl
  exact lv_if_le hC.1 hC.2.1 hd ht (fun h => kt h p e s m args below meth c H locs ls hC hH hlo hl) (fun h => kf h p e s m args below meth c H locs ls hC hH hlo hl)
theorem T_icmp_le {x y : Int32} {off : Int} {t : Nat} (hd : decode mt.2.1 pc = .ok (.if_icmp .le off, 3)) (hp : pc + 3 = n) (ht : (pc : Int) + off = (t : Int)) (kt : x ≤ y → TW G mt R cells slots t L st σ Z) (kf : ¬ x ≤ y → TW G mt R cells slots n L st σ Z) : TW G mt R cells slots pc L (.int y :: .int x :: st) σ Z := by
  subst hp
  intro p e s m args below meth c H locs ls hC hH hlo hl
  exact lv_icmp_le hC.1 hC.2.1 hd ht (fun h => kt h p e s m args below meth c H locs ls hC hH hlo hl) (fun h => kf h p e s m args below meth c H locs ls hC hH hlo hl)
theorem T_goto {off : Int} {t : Nat} (hd : decode mt.2.1 pc = .ok (.goto off, 3)) (ht : (pc : Int) + off = (t : Int)) (k : TW G mt R cells slots t L st σ Z) : TW G mt R cells slots pc L st σ Z := by
  intro p e s m args below meth c H locs ls hC hH hlo hl
  exact lv_goto hC.1 hC.2.1 hd ht (k p e s m args below meth c H locs ls hC hH hlo hl)
theorem T_tin {x : Int32} {d lo hi off : Int} {offs : Array Int} {len t : Nat} (hd : decode mt.2.1 pc = .ok (.tableswitch d lo hi offs, len)) (h1 : ¬ x.toInt < lo) (h2 : ¬ hi < x.toInt) (ho : offs[(x.toInt - lo).toNat]? = some off) (ht : (pc : Int) + off = (t : Int)) (k : TW G mt R cells slots t L st σ Z) : TW G mt R cells slots pc L (.int x :: st) σ Z := by
  intro p e s m args below meth c H locs ls hC hH hlo hl
  exact lv_tableIn hC.1 hC.2.1 hd h1 h2 ho ht (k p e s m args below meth c H locs ls hC hH hlo hl)
theorem T_tout {x : Int32} {d lo hi : Int} {offs : Array Int} {len t : Nat} (hd : decode mt.2.1 pc = .ok (.tableswitch d lo hi offs, len)) (h1 : x.toInt < lo ∨ hi < x.toInt) (ht : (pc : Int) + d = (t : Int)) (k : TW G mt R cells slots t L st σ Z) : TW G mt R cells slots pc L (.int x :: st) σ Z := by
  intro p e s m args below meth c H locs ls hC hH hlo hl
  exact lv_tableOut hC.1 hC.2.1 hd h1 ht (k p e s m args below meth c H locs ls hC hH hlo hl)
theorem T_lsw {x : Int32} {d off : Int} {ps : Array (Int × Int)} {len t : Nat} (hd : decode mt.2.1 pc = .ok (.lookupswitch d ps, len)) (hq : (ps.toList.zip (ps.toList.drop 1)).all (fun (a, next) => a.1 < next.1) = true) (ho : Op.lookupswitch.offset ps.toList d x.toInt = off) (ht : (pc : Int) + off = (t : Int)) (k : TW G mt R cells slots t L st σ Z) : TW G mt R cells slots pc L (.int x :: st) σ Z := by
  intro p e s m args below meth c H locs ls hC hH hlo hl
  exact lv_lookup hC.1 hC.2.1 hd hq ho ht (k p e s m args below meth c H locs ls hC hH hlo hl)

theorem T_widen {k' n' : Nat} (h1 : cells ≤ k') (h2 : slots ≤ n') (k : TW G mt R k' n' pc L st σ Z) : TW G mt R cells slots pc L st σ Z := fun p e s m args below meth c H locs ls hC hH hlo hl => W.widen h1 h2 (k p e s m args below meth c H locs ls hC hH hlo hl)
/-- fewer locals known -/
theorem T_loc {L' : List (Option Value)} (h : ∀ (i : Nat) (v : Value), L'[i]? = some (some v) → L[i]? = some (some v)) (k : TW G mt R cells slots pc L' st σ Z) : TW G mt R cells slots pc L st σ Z := fun p e s m args below meth c H locs ls hC hH hlo hl => k p e s m args below meth c H locs ls hC hH hlo ⟨hl.1, hl.2.1, fun i v q => hl.2.2 i v (h i v q)⟩
end TL
end
section
/-! ===== T-LAYER: memory ===== -/
section TM
variable {G : tl_G} {mt : tl_M} {R : Room} {cells slots pc n : Nat} {L : List (Option Value)} {st : List Value} {σ : tl_S} {Z : tl_Z}
/-- a field's link: pool entry idx of class own is field k of class number ci, of type ty, final or not -/
def tl_FF (own : String) (idx ci k : Nat) (ty : FieldType) (fin : Bool) : Prop := ∃ (C : String) (T : u_T) (N : Nat), tl_cl[ci]? = some (C, T, N) ∧ k < N ∧ (∀ w ∈ u_ws C T N, w ∈ tl_W) ∧ Cond.fieldLink own idx (T k).1 (T k).2.1 (T k).2.2.1 ∈ tl_W ∧ (∀ j, j < N → parseFieldDescriptor (T j).2.2.1 = some (tl_ty ci j)) ∧ (∀ a, a < N → ∀ b, b < N → a ≠ b → (T a).2.1 ≠ (T b).2.1) ∧ tl_ty ci k = ty ∧ (T k).2.2.2 = fin ∧ (fin = true → (T k).1 = own)
theorem tl_own {H : Heap} {a : Nat} (h : tl_H G σ H) (hs : (sS σ a).1 ≠ 0) : gB G ≤ a := Nat.not_lt.mp fun q => hs (h.2.2.2.1 a q)
theorem tl_H_upd {σ' : tl_S} {H H' : Heap} {a : Nat} (h : tl_H G σ H) (hz : H'.size = H.size) (ho : ∀ q, q ≠ a → H'[q]? = H[q]?) (hB : gB G ≤ a) (hS : sS σ' = sS σ) (hZ : sZ σ' = sZ σ) (hM : ∀ b, b ≠ a → sM σ' b = sM σ b) (hJ : ∀ b, b ≠ a → sJ σ' b = sJ σ b) (hP : ∀ b, b ≠ a → sP σ' b = sP σ b) (hc : tl_cell G σ' a H') : tl_H G σ' H' := by
  obtain ⟨h1, h2, h3, h4, h5⟩ := h
  refine ⟨by rw [hz, hZ]; exact h1, by rw [hZ]; exact h2, fun q hq => (ho q (by omega)).trans (h3 q hq), fun b hb => by rw [hS]; exact h4 b hb, fun b => ?_⟩
  by_cases hb : b = a
  · subst hb; exact hc
  · have h6 := h5 b
    unfold tl_cell at h6 ⊢
    rw [hS, hM b hb, hJ b hb, hP b hb]
    exact tl_at_kept h6 (ho b hb)
/-- a new cell at the heap's end -/
theorem tl_H_new {σ' : tl_S} {H H' : Heap} {t0 n0 : Nat} (h : tl_H G σ H) (hz : H'.size = sZ σ + 1) (ho : ∀ q, q < sZ σ → H'[q]? = H[q]?) (hS : sS σ' = up1 (sS σ) (sZ σ) (t0, n0)) (hZ : sZ σ' = sZ σ + 1) (hM : ∀ b, b ≠ sZ σ → sM σ' b = sM σ b) (hJ : ∀ b, b ≠ sZ σ → sJ σ' b = sJ σ b) (hP : ∀ b, b ≠ sZ σ → sP σ' b = sP σ b) (hc : tl_at G t0 n0 (sZ σ) (sM σ' (sZ σ)) (sJ σ' (sZ σ)) (sP σ' (sZ σ)) H') : tl_H G σ' H' := by
  obtain ⟨h1, h2, h3, h4, h5⟩ := h
  refine ⟨by rw [hz, hZ], by rw [hZ]; omega, fun q hq => (ho q (by omega)).trans (h3 q hq), fun b hb => by rw [hS, up1_o (by omega)]; exact h4 b hb, fun b => ?_⟩
  by_cases hb : b = sZ σ
  · subst hb
    unfold tl_cell
    rw [hS, up1_s]
    exact hc
  · have h6 := h5 b
    unfold tl_cell at h6 ⊢
    rw [hS, up1_o hb, hM b hb, hJ b hb, hP b hb]
    by_cases ht : (sS σ b).1 = 0
    · rw [ht]; trivial
    · have h7 := tl_at_lt h6 ht
      exact tl_at_kept h6 (ho b (by omega))
theorem T_get {idx ci k a : Nat} {ty : FieldType} {fin : Bool} (hd : decode mt.2.1 pc = .ok (.getfield idx, 3)) (hp : pc + 3 = n) (hf : tl_FF mt.1 idx ci k ty fin) (hs : sS σ a = (1, ci)) (kk : TW G mt R cells slots n L (tl_fv ty (sM σ a k) (sJ σ a k) (sP σ a k) :: st) σ Z) : TW G mt R cells slots pc L (.ref a :: st) σ Z := by
  subst hp
  intro p e s m args below meth c H locs ls hC hH hlo hl
  obtain ⟨hx, hb, -, -, -, -, hown, hts, hK⟩ := id hC
  obtain ⟨C, T, N, hc, hk, hin, hlink, hty, hnm, hty1, -, -⟩ := hf
  have hcell := hH.2.2.2.2 a
  unfold tl_cell at hcell
  rw [hs] at hcell
  obtain ⟨q, hq, cell, q1, q2, q3, q4⟩ := hcell
  cases hc.symm.trans hq
  obtain ⟨hS, hfc, kC, hkC, hkind⟩ := hK.1.1 ci _ hc
  obtain ⟨cf, kf, fi, f, hi, hsl⟩ := hS k hk
  refine W.getf hx hb hown (hts _ hlink) hi (u_facts hfc hkC (u_lays hts hin hk) hi).1 q1 (by rw [q3]; exact fun h => by cases h) (v := tl_fv ty (sM σ a k) (sJ σ a k) (sP σ a k)) ?_ rfl rfl hd (kk p e s m args below meth c H locs ls hC hH hlo hl)
  rw [hsl, q4 k hk]
  show some (tl_fv (tl_ty ci k) _ _ _) = _
  rw [hty1]
theorem T_getI {idx ci k a : Nat} {fin : Bool} (hd : decode mt.2.1 pc = .ok (.getfield idx, 3)) (hp : pc + 3 = n) (hf : tl_FF mt.1 idx ci k .int fin) (hs : sS σ a = (1, ci)) (kk : TW G mt R cells slots n L (.int (sM σ a k) :: st) σ Z) : TW G mt R cells slots pc L (.ref a :: st) σ Z := T_get hd hp hf hs kk
theorem T_getZ {idx ci k a : Nat} {fin : Bool} (hd : decode mt.2.1 pc = .ok (.getfield idx, 3)) (hp : pc + 3 = n) (hf : tl_FF mt.1 idx ci k .boolean fin) (hs : sS σ a = (1, ci)) (kk : TW G mt R cells slots n L (.int (sM σ a k) :: st) σ Z) : TW G mt R cells slots pc L (.ref a :: st) σ Z := T_get hd hp hf hs kk
theorem T_getJ {idx ci k a : Nat} {fin : Bool} (hd : decode mt.2.1 pc = .ok (.getfield idx, 3)) (hp : pc + 3 = n) (hf : tl_FF mt.1 idx ci k .long fin) (hs : sS σ a = (1, ci)) (kk : TW G mt R cells slots n L (.long (sJ σ a k) :: st) σ Z) : TW G mt R cells slots pc L (.ref a :: st) σ Z := T_get hd hp hf hs kk
theorem T_getA {idx ci k a r : Nat} {t : FieldType} {fin : Bool} (hd : decode mt.2.1 pc = .ok (.getfield idx, 3)) (hp : pc + 3 = n) (hf : tl_FF mt.1 idx ci k (.array t) fin) (hs : sS σ a = (1, ci)) (hr : sP σ a k = some r) (kk : TW G mt R cells slots n L (.ref r :: st) σ Z) : TW G mt R cells slots pc L (.ref a :: st) σ Z := T_get hd hp hf hs (by rw [hr]; exact kk)
theorem T_getO {idx ci k a r : Nat} {t : String} {fin : Bool} (hd : decode mt.2.1 pc = .ok (.getfield idx, 3)) (hp : pc + 3 = n) (hf : tl_FF mt.1 idx ci k (.object t) fin) (hs : sS σ a = (1, ci)) (hr : sP σ a k = some r) (kk : TW G mt R cells slots n L (.ref r :: st) σ Z) : TW G mt R cells slots pc L (.ref a :: st) σ Z := T_get hd hp hf hs (by rw [hr]; exact kk)
/-- putfield: the new state holds v there, and differs at a alone -/
theorem T_put {idx ci k a : Nat} {ty : FieldType} {fin : Bool} {v : Value} {σ' : tl_S} (hd : decode mt.2.1 pc = .ok (.putfield idx, 3)) (hp : pc + 3 = n) (hf : tl_FF mt.1 idx ci k ty fin) (hfi : fin = true → mt.2.2.2.2 = "<init>") (hs : sS σ a = (1, ci)) (hn : narrow ty v = v) (hfit : fits ty v = true) (hS' : sS σ' = sS σ) (hZ' : sZ σ' = sZ σ) (hM' : ∀ b, b ≠ a → sM σ' b = sM σ b) (hJ' : ∀ b, b ≠ a → sJ σ' b = sJ σ b) (hP' : ∀ b, b ≠ a → sP σ' b = sP σ b) (hv : tl_fv ty (sM σ' a k) (sJ σ' a k) (sP σ' a k) = v) (hv2 : ∀ j, j ≠ k → sM σ' a j = sM σ a j ∧ sJ σ' a j = sJ σ a j ∧ sP σ' a j = sP σ a j) (kk : TW G mt R cells slots n L st σ' Z) : TW G mt R cells slots pc L (v :: .ref a :: st) σ Z := by
  subst hp
  intro p e s m args below meth c H locs ls hC hH hlo hl
  obtain ⟨hx, hb, -, -, -, hname, hown, hts, hK⟩ := id hC
  obtain ⟨C, T, N, hc, hk, hin, hlink, hty, hnm, hty1, hfin, hdecl⟩ := hf
  have hcell := hH.2.2.2.2 a
  unfold tl_cell at hcell
  rw [hs] at hcell
  obtain ⟨q, hq, cell, q1, q2, q3, q4⟩ := hcell
  cases hc.symm.trans hq
  obtain ⟨hS, hfc, kC, hkC, hkind⟩ := hK.1.1 ci _ hc
  obtain ⟨cf, kf, fi, f, hi, hsl⟩ := hS k hk
  have hap : ∀ x y, x < N → y < N → x ≠ y → ((gD G).2 ci) x ≠ ((gD G).2 ci) y := va_apart (own := mt.1) (D := gD G) (cl := tl_cl) (tys := tl_tys G) hts hin (tl_ty ci) hty hnm hK.1 hc
  have hst := (u_facts hfc hkC (u_lays hts hin hk) hi).1
  have hdk : parseFieldDescriptor (T k).2.2.1 = some ty := by rw [hty k hk, hty1]
  have hown' : gB G ≤ a := tl_own hH (by rw [hs]; simp)
  have fini : ∀ (H' : Heap), H'[a]? = some (cell.setSlot f.slot v) → H'.size = H.size → (∀ q, q ≠ a → H'[q]? = H[q]?) → W p (gL G) e R s m args below meth c H' (locs ++ [⟨a, f.slot⟩]) cells slots (Z below args s) (F0 m (pc + 3) ls st) := by
    intro H' e1 e2 e3
    refine kk p e s m args below meth c H' _ ls hC ?_ ?_ hl
    · refine tl_H_upd hH e2 e3 hown' hS' hZ' hM' hJ' hP' ?_
      unfold tl_cell
      rw [hS', hs]
      refine ⟨(C, T, N), hc, cell.setSlot f.slot v, e1, q2, q3, fun j hj => ?_⟩
      rw [hsl]
      have h8 := t_set q4 hap hk v j hj
      rw [h8]
      by_cases hjk : j = k
      · subst hjk
        simp only [updV, if_true]
        rw [hty1, hv]
      · simp only [updV, if_neg hjk]
        obtain ⟨z1, z2, z3⟩ := hv2 j hjk
        rw [z1, z2, z3]
    · intro q hq
      rcases List.mem_append.mp hq with h9 | h9
      · exact hlo q h9
      · rw [List.mem_singleton.mp h9]
        exact hown'
  have hlay := hts _ (hin _ (u_in_lay hk))
  unfold u_lay at hlay
  cases fin with
  | false =>
    rw [if_neg (by rw [hfin]; decide)] at hlay
    have h6 := u_store hfc hkC hkind hlay hi hdk hn hfit
    exact W.putK hx hb (f := f) ⟨hown, hts _ hlink, ⟨_, _, _, hi⟩, hst⟩ (by rw [q2]; exact h6) q1 q3 (by rw [hsl]; exact k2_hasslot (q4 k hk)) rfl rfl hd fini
  | true =>
    rw [if_pos hfin] at hlay
    have hcf : m.cls = cf := by
      obtain ⟨_, _, c', _, _, _, -, -, hf', -, -, -, hown2, -⟩ := Cond.laysFinal_spec hlay
      have e1 : c' = cf := by have := hi.symm.trans hf'; simp at this; exact this.1.symm
      rw [hdecl rfl] at hown2
      rw [← e1]; exact Option.some.inj (hown.symm.trans hown2)
    have h6 := u_fits hfc hkC hkind (Or.inr hlay) hi hdk hn hfit
    exact W.putFinK hx hb hown (hts _ hlink) hi hst hcf (hname.trans (hfi rfl)) (by rw [q2]; exact h6) q1 q3 (by rw [hsl]; exact k2_hasslot (q4 k hk)) rfl rfl hd fini
theorem T_putI {idx ci k a : Nat} {fin : Bool} {x : Int32} (hd : decode mt.2.1 pc = .ok (.putfield idx, 3)) (hp : pc + 3 = n) (hf : tl_FF mt.1 idx ci k .int fin) (hfi : fin = true → mt.2.2.2.2 = "<init>") (hs : sS σ a = (1, ci)) (kk : TW G mt R cells slots n L st (sS σ, up2 (sM σ) a k x, sJ σ, sP σ, sZ σ) Z) : TW G mt R cells slots pc L (.int x :: .ref a :: st) σ Z :=
  T_put (σ' := (sS σ, up2 (sM σ) a k x, sJ σ, sP σ, sZ σ)) hd hp hf hfi hs rfl rfl rfl rfl (fun b hb => up2_o hb) (fun _ _ => rfl) (fun _ _ => rfl) (by show Value.int (up2 (sM σ) a k x a k) = _; rw [up2_s]) (fun j hj => ⟨up2_n hj, rfl, rfl⟩) kk
theorem T_putZ {idx ci k a : Nat} {fin : Bool} {x : Int32} (hd : decode mt.2.1 pc = .ok (.putfield idx, 3)) (hp : pc + 3 = n) (hf : tl_FF mt.1 idx ci k .boolean fin) (hfi : fin = true → mt.2.2.2.2 = "<init>") (hs : sS σ a = (1, ci)) (hx : x = 0 ∨ x = 1) (kk : TW G mt R cells slots n L st (sS σ, up2 (sM σ) a k x, sJ σ, sP σ, sZ σ) Z) : TW G mt R cells slots pc L (.int x :: .ref a :: st) σ Z :=
  T_put (σ' := (sS σ, up2 (sM σ) a k x, sJ σ, sP σ, sZ σ)) hd hp hf hfi hs (by rcases hx with rfl | rfl <;> rfl) (by rcases hx with rfl | rfl <;> rfl) rfl rfl (fun b hb => up2_o hb) (fun _ _ => rfl) (fun _ _ => rfl) (by show Value.int (up2 (sM σ) a k x a k) = _; rw [up2_s]) (fun j hj => ⟨up2_n hj, rfl, rfl⟩) kk
theorem T_putJ {idx ci k a : Nat} {fin : Bool} {x : Int64} (hd : decode mt.2.1 pc = .ok (.putfield idx, 3)) (hp : pc + 3 = n) (hf : tl_FF mt.1 idx ci k .long fin) (hfi : fin = true → mt.2.2.2.2 = "<init>") (hs : sS σ a = (1, ci)) (kk : TW G mt R cells slots n L st (sS σ, sM σ, up2 (sJ σ) a k x, sP σ, sZ σ) Z) : TW G mt R cells slots pc L (.long x :: .ref a :: st) σ Z :=
  T_put (σ' := (sS σ, sM σ, up2 (sJ σ) a k x, sP σ, sZ σ)) hd hp hf hfi hs rfl rfl rfl rfl (fun _ _ => rfl) (fun b hb => up2_o hb) (fun _ _ => rfl) (by show Value.long (up2 (sJ σ) a k x a k) = _; rw [up2_s]) (fun j hj => ⟨rfl, up2_n hj, rfl⟩) kk
theorem T_putA {idx ci k a x : Nat} {t : FieldType} {fin : Bool} (hd : decode mt.2.1 pc = .ok (.putfield idx, 3)) (hp : pc + 3 = n) (hf : tl_FF mt.1 idx ci k (.array t) fin) (hfi : fin = true → mt.2.2.2.2 = "<init>") (hs : sS σ a = (1, ci)) (kk : TW G mt R cells slots n L st (sS σ, sM σ, sJ σ, up2 (sP σ) a k (some x), sZ σ) Z) : TW G mt R cells slots pc L (.ref x :: .ref a :: st) σ Z :=
  T_put (σ' := (sS σ, sM σ, sJ σ, up2 (sP σ) a k (some x), sZ σ)) hd hp hf hfi hs rfl rfl rfl rfl (fun _ _ => rfl) (fun _ _ => rfl) (fun b hb => up2_o hb) (by show va_rf (up2 (sP σ) a k (some x) a k) = _; rw [up2_s]; rfl) (fun j hj => ⟨rfl, rfl, up2_n hj⟩) kk
theorem T_putO {idx ci k a x : Nat} {t : String} {fin : Bool} (hd : decode mt.2.1 pc = .ok (.putfield idx, 3)) (hp : pc + 3 = n) (hf : tl_FF mt.1 idx ci k (.object t) fin) (hfi : fin = true → mt.2.2.2.2 = "<init>") (hs : sS σ a = (1, ci)) (kk : TW G mt R cells slots n L st (sS σ, sM σ, sJ σ, up2 (sP σ) a k (some x), sZ σ) Z) : TW G mt R cells slots pc L (.ref x :: .ref a :: st) σ Z :=
  T_put (σ' := (sS σ, sM σ, sJ σ, up2 (sP σ) a k (some x), sZ σ)) hd hp hf hfi hs rfl rfl rfl rfl (fun _ _ => rfl) (fun _ _ => rfl) (fun b hb => up2_o hb) (by show va_rf (up2 (sP σ) a k (some x) a k) = _; rw [up2_s]; rfl) (fun j hj => ⟨rfl, rfl, up2_n hj⟩) kk
theorem tl_in {i N : Nat} (hi : i < N) (hN : N < 2 ^ 31) : ¬ (nI i < 0 ∨ N ≤ (nI i).toNatClampNeg) := nI_in hi hN
/-- array reads and stores, by a number i below the length -/
theorem T_iald {j : Int32} {a N i : Nat} (hd : decode mt.2.1 pc = .ok (.iaload, 1)) (hp : pc + 1 = n) (hs : sS σ a = (2, N)) (hj : j = nI i) (hi : i < N) (hN : N < 2 ^ 31) (kk : TW G mt R cells slots n L (.int (sM σ a i) :: st) σ Z) : TW G mt R cells slots pc L (.int j :: .ref a :: st) σ Z := by
  subst hp; subst hj
  intro p e s m args below meth c H locs ls hC hH hlo hl
  have hcell := hH.2.2.2.2 a
  unfold tl_cell at hcell
  rw [hs] at hcell
  have hK := hC.2.2.2.2.2.2.2.2
  refine W.iald (v := .int (sM σ a i)) hC.1 hC.2.1 hcell ((hK.1.2 0 (gA G 0, .int) rfl).1 N (fun j => .int (sM σ a j))) (fun q => by cases q) (by rw [arrV_size]; exact tl_in hi hN) (by rw [nI_clamp (by omega), arrV_read _ _ hi]) rfl rfl hd (kk p e s m args below meth c H locs ls hC hH hlo hl)
theorem T_zald {j : Int32} {a N i : Nat} (hd : decode mt.2.1 pc = .ok (.baload, 1)) (hp : pc + 1 = n) (hs : sS σ a = (3, N)) (hj : j = nI i) (hi : i < N) (hN : N < 2 ^ 31) (kk : TW G mt R cells slots n L (.int (sM σ a i) :: st) σ Z) : TW G mt R cells slots pc L (.int j :: .ref a :: st) σ Z := by
  subst hp; subst hj
  intro p e s m args below meth c H locs ls hC hH hlo hl
  have hcell := hH.2.2.2.2 a
  unfold tl_cell at hcell
  rw [hs] at hcell
  have hK := hC.2.2.2.2.2.2.2.2
  refine W.zald (v := .int (sM σ a i)) hC.1 hC.2.1 hcell ((hK.1.2 1 (gA G 1, .boolean) rfl).1 N (fun j => .int (sM σ a j))) (fun q => by cases q) (by rw [arrV_size]; exact tl_in hi hN) (by rw [nI_clamp (by omega), arrV_read _ _ hi]) rfl rfl hd (kk p e s m args below meth c H locs ls hC hH hlo hl)
theorem T_lald {j : Int32} {a N i : Nat} (hd : decode mt.2.1 pc = .ok (.laload, 1)) (hp : pc + 1 = n) (hs : sS σ a = (4, N)) (hj : j = nI i) (hi : i < N) (hN : N < 2 ^ 31) (kk : TW G mt R cells slots n L (.long (sJ σ a i) :: st) σ Z) : TW G mt R cells slots pc L (.int j :: .ref a :: st) σ Z := by
  subst hp; subst hj
  intro p e s m args below meth c H locs ls hC hH hlo hl
  have hcell := hH.2.2.2.2 a
  unfold tl_cell at hcell
  rw [hs] at hcell
  have hK := hC.2.2.2.2.2.2.2.2
  refine W.lald (v := .long (sJ σ a i)) hC.1 hC.2.1 hcell ((hK.1.2 2 (gA G 2, .long) rfl).1 N (fun j => .long (sJ σ a j))) (fun q => by cases q) (by rw [arrV_size]; exact tl_in hi hN) (by rw [nI_clamp (by omega), arrV_read _ _ hi]) rfl rfl hd (kk p e s m args below meth c H locs ls hC hH hlo hl)
theorem T_aald {j : Int32} {a N i r : Nat} (hd : decode mt.2.1 pc = .ok (.aaload, 1)) (hp : pc + 1 = n) (hs : sS σ a = (5, N)) (hj : j = nI i) (hi : i < N) (hN : N < 2 ^ 31) (hr : sP σ a i = some r) (kk : TW G mt R cells slots n L (.ref r :: st) σ Z) : TW G mt R cells slots pc L (.int j :: .ref a :: st) σ Z := by
  subst hp; subst hj
  intro p e s m args below meth c H locs ls hC hH hlo hl
  have hcell := hH.2.2.2.2 a
  unfold tl_cell at hcell
  rw [hs] at hcell
  have hK := hC.2.2.2.2.2.2.2.2
  refine W.aald (v := .ref r) (ty := .object RX0) hC.1 hC.2.1 hcell ((hK.1.2 3 (gA G 3, .object RX0) rfl).1 N (fun j => va_rf (sP σ a j))) rfl (fun q => by cases q) (by rw [arrV_size]; exact tl_in hi hN) (by rw [nI_clamp (by omega), arrV_read _ _ hi, hr]; rfl) rfl rfl hd (kk p e s m args below meth c H locs ls hC hH hlo hl)
theorem T_ialdR {j : Int32} {q i : Nat} (hd : decode mt.2.1 pc = .ok (.iaload, 1)) (hp : pc + 1 = n) (hq : q < 3) (hj : j = nI i) (hi : i < (gR G q).2.1) (hN : (gR G q).2.1 < 2 ^ 31) (kk : TW G mt R cells slots n L (.int ((gR G q).2.2 i) :: st) σ Z) : TW G mt R cells slots pc L (.int j :: .ref (gR G q).1 :: st) σ Z := by
  subst hp; subst hj
  intro p e s m args below meth c H locs ls hC hH hlo hl
  obtain ⟨⟨scr, h1, h2, h3, h4, h5⟩, hB⟩ := hC.2.2.2.2.2.2.2.2.2.1 q hq
  exact W.iald (v := .int ((gR G q).2.2 i)) hC.1 hC.2.1 (by rw [hH.2.2.1 _ hB]; exact h1) h2 h3 (fun h => tl_in hi hN (h.imp id (fun z => Nat.le_trans h4 z))) (by rw [nI_clamp (by omega)]; exact h5 _ hi) rfl rfl hd (kk p e s m args below meth c H locs ls hC hH hlo hl)
theorem T_alen {a N : Nat} (hd : decode mt.2.1 pc = .ok (.arraylength, 1)) (hp : pc + 1 = n) (hs : sS σ a = (2, N)) (kk : TW G mt R cells slots n L (.int (nI N) :: st) σ Z) : TW G mt R cells slots pc L (.ref a :: st) σ Z := by
  subst hp
  intro p e s m args below meth c H locs ls hC hH hlo hl
  have hcell := hH.2.2.2.2 a
  unfold tl_cell at hcell
  rw [hs] at hcell
  have hK := hC.2.2.2.2.2.2.2.2
  exact W.alen (n := nI N) hC.1 hC.2.1 hcell ((hK.1.2 0 (gA G 0, .int) rfl).1 N (fun j => .int (sM σ a j))) (by rw [arrV_size] <;> rfl) rfl rfl hd (kk p e s m args below meth c H locs ls hC hH hlo hl)
theorem T_alenR {q : Nat} (hd : decode mt.2.1 pc = .ok (.arraylength, 1)) (hp : pc + 1 = n) (hq : q = 0) (kk : TW G mt R cells slots n L (.int (nI (gR G q).2.1) :: st) σ Z) : TW G mt R cells slots pc L (.ref (gR G q).1 :: st) σ Z := by
  subst hp; subst hq
  intro p e s m args below meth c H locs ls hC hH hlo hl
  have hB := (hC.2.2.2.2.2.2.2.2.2.1 0 (by decide)).2
  obtain ⟨scr, h1, h2, h3, h4, h5⟩ := hC.2.2.2.2.2.2.2.2.2.2.2.2.2
  exact W.alen (n := nI (gR G 0).2.1) hC.1 hC.2.1 (by rw [hH.2.2.1 _ hB]; exact h1) h2 (by rw [h4] <;> rfl) rfl rfl hd (kk p e s m args below meth c H locs ls hC hH hlo hl)
theorem tl_lo {locs : List Loc} {a j : Nat} (h : ∀ q ∈ locs, gB G ≤ q.base) (ha : gB G ≤ a) : ∀ q ∈ locs ++ [⟨a, j⟩], gB G ≤ q.base := by
  intro q hq
  rcases List.mem_append.mp hq with h9 | h9
  · exact h q h9
  · rw [List.mem_singleton.mp h9]
    exact ha
theorem tl_updM {f : Nat → Nat → Int32} {a i : Nat} {x : Int32} : updV (fun j => Value.int (f a j)) i (.int x) = fun j => Value.int (up2 f a i x a j) := by
  funext q
  by_cases hq : q = i
  · subst hq; simp [updV, up2]
  · simp [updV, up2, hq]
theorem tl_updJ {f : Nat → Nat → Int64} {a i : Nat} {x : Int64} : updV (fun j => Value.long (f a j)) i (.long x) = fun j => Value.long (up2 f a i x a j) := by
  funext q
  by_cases hq : q = i
  · subst hq; simp [updV, up2]
  · simp [updV, up2, hq]
theorem tl_updP {f : Nat → Nat → Option Nat} {a i x : Nat} : updV (fun j => va_rf (f a j)) i (.ref x) = fun j => va_rf (up2 f a i (some x) a j) := by
  funext q
  by_cases hq : q = i
  · subst hq; simp [updV, up2, va_rf]
  · simp [updV, up2, hq]
theorem T_iast {j x : Int32} {a N i : Nat} (hd : decode mt.2.1 pc = .ok (.iastore, 1)) (hp : pc + 1 = n) (hs : sS σ a = (2, N)) (hj : j = nI i) (hi : i < N) (hN : N < 2 ^ 31) (kk : TW G mt R cells slots n L st (sS σ, up2 (sM σ) a i x, sJ σ, sP σ, sZ σ) Z) : TW G mt R cells slots pc L (.int x :: .int j :: .ref a :: st) σ Z := by
  subst hp; subst hj
  intro p e s m args below meth c H locs ls hC hH hlo hl
  have hcell := hH.2.2.2.2 a
  unfold tl_cell at hcell
  rw [hs] at hcell
  have hK := hC.2.2.2.2.2.2.2.2
  have hB : gB G ≤ a := tl_own hH (by rw [hs]; simp)
  refine W.iast hC.1 hC.2.1 hcell ((hK.1.2 0 (gA G 0, .int) rfl).1 N (fun j => .int (sM σ a j))) (fun q => by cases q) (by rw [arrV_size]; exact tl_in hi hN) rfl rfl hd fun H1 e1 z oq => ?_
  refine kk p e s m args below meth c H1 _ ls hC (tl_H_upd hH z oq hB rfl rfl (fun b hb => up2_o hb) (fun _ _ => rfl) (fun _ _ => rfl) ?_) (tl_lo hlo hB) hl
  unfold tl_cell
  show tl_at G (sS σ a).1 (sS σ a).2 a _ _ _ H1
  rw [hs]
  show H1[a]? = some (arrV _ _ _)
  rw [e1, arrV_store, nI_clamp (by omega), tl_updM]
theorem T_zast {j x : Int32} {a N i : Nat} (hd : decode mt.2.1 pc = .ok (.bastore, 1)) (hp : pc + 1 = n) (hs : sS σ a = (3, N)) (hj : j = nI i) (hi : i < N) (hN : N < 2 ^ 31) (hx : x = 0 ∨ x = 1) (kk : TW G mt R cells slots n L st (sS σ, up2 (sM σ) a i x, sJ σ, sP σ, sZ σ) Z) : TW G mt R cells slots pc L (.int x :: .int j :: .ref a :: st) σ Z := by
  subst hp; subst hj
  intro p e s m args below meth c H locs ls hC hH hlo hl
  have hcell := hH.2.2.2.2 a
  unfold tl_cell at hcell
  rw [hs] at hcell
  have hK := hC.2.2.2.2.2.2.2.2
  have hB : gB G ≤ a := tl_own hH (by rw [hs]; simp)
  have hnx : narrow .boolean (.int x) = .int x := by rcases hx with rfl | rfl <;> rfl
  refine W.zast hC.1 hC.2.1 hcell ((hK.1.2 1 (gA G 1, .boolean) rfl).1 N (fun j => .int (sM σ a j))) (fun q => by cases q) (by rw [arrV_size]; exact tl_in hi hN) rfl rfl hd fun H1 e1 z oq => ?_
  refine kk p e s m args below meth c H1 _ ls hC (tl_H_upd hH z oq hB rfl rfl (fun b hb => up2_o hb) (fun _ _ => rfl) (fun _ _ => rfl) ?_) (tl_lo hlo hB) hl
  unfold tl_cell
  show tl_at G (sS σ a).1 (sS σ a).2 a _ _ _ H1
  rw [hs]
  show H1[a]? = some (arrV _ _ _)
  rw [e1, hnx, arrV_store, nI_clamp (by omega), tl_updM]
theorem T_last {j : Int32} {x : Int64} {a N i : Nat} (hd : decode mt.2.1 pc = .ok (.lastore, 1)) (hp : pc + 1 = n) (hs : sS σ a = (4, N)) (hj : j = nI i) (hi : i < N) (hN : N < 2 ^ 31) (kk : TW G mt R cells slots n L st (sS σ, sM σ, up2 (sJ σ) a i x, sP σ, sZ σ) Z) : TW G mt R cells slots pc L (.long x :: .int j :: .ref a :: st) σ Z := by
  subst hp; subst hj
  intro p e s m args below meth c H locs ls hC hH hlo hl
  have hcell := hH.2.2.2.2 a
  unfold tl_cell at hcell
  rw [hs] at hcell
  have hK := hC.2.2.2.2.2.2.2.2
  have hB : gB G ≤ a := tl_own hH (by rw [hs]; simp)
  refine W.last hC.1 hC.2.1 hcell ((hK.1.2 2 (gA G 2, .long) rfl).1 N (fun j => .long (sJ σ a j))) (fun q => by cases q) (by rw [arrV_size]; exact tl_in hi hN) rfl rfl hd fun H1 e1 z oq => ?_
  refine kk p e s m args below meth c H1 _ ls hC (tl_H_upd hH z oq hB rfl rfl (fun _ _ => rfl) (fun b hb => up2_o hb) (fun _ _ => rfl) ?_) (tl_lo hlo hB) hl
  unfold tl_cell
  show tl_at G (sS σ a).1 (sS σ a).2 a _ _ _ H1
  rw [hs]
  show H1[a]? = some (arrV _ _ _)
  rw [e1, arrV_store, nI_clamp (by omega), tl_updJ]
theorem T_aast {j : Int32} {a N i v : Nat} (hd : decode mt.2.1 pc = .ok (.aastore, 1)) (hp : pc + 1 = n) (hs : sS σ a = (5, N)) (hv : sS σ v = (1, 0)) (hj : j = nI i) (hi : i < N) (hN : N < 2 ^ 31) (kk : TW G mt R cells slots n L st (sS σ, sM σ, sJ σ, up2 (sP σ) a i (some v), sZ σ) Z) : TW G mt R cells slots pc L (.ref v :: .int j :: .ref a :: st) σ Z := by
  subst hp; subst hj
  intro p e s m args below meth c H locs ls hC hH hlo hl
  have hcell := hH.2.2.2.2 a
  unfold tl_cell at hcell
  rw [hs] at hcell
  have hcv := hH.2.2.2.2 v
  unfold tl_cell at hcv
  rw [hv] at hcv
  obtain ⟨q', hq', cellV, g1, g2, g3, -⟩ := hcv
  have hK := hC.2.2.2.2.2.2.2.2
  have hB : gB G ≤ a := tl_own hH (by rw [hs]; simp)
  have hcls := (hK.1.1 0 _ hq').2
  cases (show tl_cl[0]? = some (RX0, TX0, 6) from rfl).symm.trans hq'
  obtain ⟨kA, comp, k1, k2, k3, -⟩ := (hK.1.2 3 (gA G 3, .object RX0) rfl).2
  have hcomp : comp = (gD G).1 0 := Option.some.inj (k3.symm.trans hcls.1)
  subst hcomp
  obtain ⟨kC, hkC, -⟩ := hcls.2
  refine W.aast hC.1 hC.2.1 hcell (fun q h => by cases h) (fun h => by cases h) k1 k2 rfl hkC ⟨nI_pos (by omega), by rw [arrV_size, nI_clamp (by omega)]; exact hi⟩ g1 (fun q h => by rw [g3] at h; cases h) (by rw [g2]; exact hkC) (by rw [g2]; exact va_assign hcls) rfl rfl hd fun H1 e1 z oq => ?_
  refine kk p e s m args below meth c H1 _ ls hC (tl_H_upd hH z oq hB rfl rfl (fun _ _ => rfl) (fun _ _ => rfl) (fun b hb => up2_o hb) ?_) (tl_lo hlo hB) hl
  unfold tl_cell
  show tl_at G (sS σ a).1 (sS σ a).2 a _ _ _ H1
  rw [hs]
  show H1[a]? = some (arrV _ _ _)
  rw [e1, arrV_store, nI_clamp (by omega), tl_updP]
theorem T_gets {idx i : Nat} (hd : decode mt.2.1 pc = .ok (.getstatic idx, 3)) (hp : pc + 3 = n) (h1 : 1 ≤ i) (h2 : i < 3) (hw : Cond.fieldLink mt.1 idx (tl_sf i).1 (tl_sf i).2.1 (tl_sf i).2.2 ∈ tl_W) (kk : TW G mt R cells slots n L (.ref (gR G i).1 :: st) σ Z) : TW G mt R cells slots pc L st σ Z := by
  subst hp
  intro p e s m args below meth c H locs ls hC hH hlo hl
  obtain ⟨cf, kf, fi, f, a, cell, z1, z2, z3, z4, z5, z6, z7, z8⟩ := hC.2.2.2.2.2.2.2.2.2.2.1 i h1 h2
  exact W.gets hC.1 hC.2.1 hC.2.2.2.2.2.2.1 (hC.2.2.2.2.2.2.2.1 _ hw) z1 z2 z3 z4 (by rw [hH.2.2.1 a (Nat.not_le.mp z8)]; exact z5) (fun e => by rw [e] at z6; cases z6) z7 rfl hd (kk p e s m args below meth c H locs ls hC hH hlo hl)
theorem T_getsN {idx i : Nat} (hd : decode mt.2.1 pc = .ok (.getstatic idx, 3)) (hp : pc + 3 = n) (h1 : 1 ≤ i) (h2 : i < 3) (hm : mt.1 = RX0) (hi : idx = tl_si i) (kk : TW G mt R cells slots n L (.ref (gR G i).1 :: st) σ Z) : TW G mt R cells slots pc L st σ Z := by
  subst hp; subst hi
  intro p e s m args below meth c H locs ls hC hH hlo hl
  obtain ⟨cf, kf, fi, f, a, cell, z1, z2, z3, z4, z5, z6, z7, z8⟩ := hC.2.2.2.2.2.2.2.2.2.2.1 i h1 h2
  have hN := hC.2.2.2.2.2.2.2.2.2.2.2.2.1
  have hown := hC.2.2.2.2.2.2.1
  rw [hm] at hown
  rcases (show i = 1 ∨ i = 2 by omega) with rfl | rfl
  · exact va_WgetsN hC.1 hC.2.1 hown (va_Nw.use rfl hN.1) z1 z2 z3 z4 (by rw [hH.2.2.1 a (Nat.not_le.mp z8)]; exact z5) (fun e => by rw [e] at z6; cases z6) z7 rfl hd (kk p e s m args below meth c H locs ls hC hH hlo hl)
  · exact va_WgetsN hC.1 hC.2.1 hown (va_Nw.use rfl hN.2) z1 z2 z3 z4 (by rw [hH.2.2.1 a (Nat.not_le.mp z8)]; exact z5) (fun e => by rw [e] at z6; cases z6) z7 rfl hd (kk p e s m args below meth c H locs ls hC hH hlo hl)
end TM
end
