-- ===== PART A: goes FIRST, ahead of the names: the tables' words, and 'selects' of the private methods out of them =====
/-- a private method of a class that the tables say can be made, by its rows of tables_1 -/
def lw_okq (q : MethodName × Nat) : Prop := (q.1.cls ≠ "java/lang/invoke/MethodHandle" ∧ q.1.cls ≠ "java/lang/invoke/VarHandle") ∧ Cond.instantiable q.1.cls q.2 ∈ tables_1 ∧ Cond.privateMethod q.1 ∈ tables_1 ∧ Cond.instanceMethod q.1 ∈ tables_1
theorem lw_p0 : lw_okq (⟨"PlotterPlanner", "beginEdit", "()V"⟩, 8) := ⟨⟨by decide +kernel, by decide +kernel⟩, List.mem_of_getElem? (i := 11) (by decide +kernel), List.mem_of_getElem? (i := 148) (by decide +kernel), List.mem_of_getElem? (i := 149) (by decide +kernel)⟩
theorem lw_p1 : lw_okq (⟨"PlotterPlanner$History", "slotAt", "(I)LPlotterPlanner$Drawing;"⟩, 3) := ⟨⟨by decide +kernel, by decide +kernel⟩, List.mem_of_getElem? (i := 42) (by decide +kernel), List.mem_of_getElem? (i := 156) (by decide +kernel), List.mem_of_getElem? (i := 157) (by decide +kernel)⟩
theorem lw_p2 : lw_okq (⟨"PlotterPlanner$Drawing", "dropFromPlan", "(I)V"⟩, 5) := ⟨⟨by decide +kernel, by decide +kernel⟩, List.mem_of_getElem? (i := 19) (by decide +kernel), List.mem_of_getElem? (i := 191) (by decide +kernel), List.mem_of_getElem? (i := 192) (by decide +kernel)⟩
theorem lw_p3 : lw_okq (⟨"PlotterPlanner$Drawing", "areAlike", "(II)Z"⟩, 5) := ⟨⟨by decide +kernel, by decide +kernel⟩, List.mem_of_getElem? (i := 19) (by decide +kernel), List.mem_of_getElem? (i := 215) (by decide +kernel), List.mem_of_getElem? (i := 216) (by decide +kernel)⟩
theorem lw_p4 : lw_okq (⟨"PlotterPlanner$Drawing", "beginXOf", "(I)I"⟩, 5) := ⟨⟨by decide +kernel, by decide +kernel⟩, List.mem_of_getElem? (i := 19) (by decide +kernel), List.mem_of_getElem? (i := 224) (by decide +kernel), List.mem_of_getElem? (i := 225) (by decide +kernel)⟩
theorem lw_p5 : lw_okq (⟨"PlotterPlanner$Drawing", "hasCode", "(I)Z"⟩, 5) := ⟨⟨by decide +kernel, by decide +kernel⟩, List.mem_of_getElem? (i := 19) (by decide +kernel), List.mem_of_getElem? (i := 228) (by decide +kernel), List.mem_of_getElem? (i := 229) (by decide +kernel)⟩
theorem lw_p6 : lw_okq (⟨"PlotterPlanner$Drawing", "beginYOf", "(I)I"⟩, 5) := ⟨⟨by decide +kernel, by decide +kernel⟩, List.mem_of_getElem? (i := 19) (by decide +kernel), List.mem_of_getElem? (i := 232) (by decide +kernel), List.mem_of_getElem? (i := 233) (by decide +kernel)⟩
theorem lw_p7 : lw_okq (⟨"PlotterPlanner$Drawing", "covers", "(II)Z"⟩, 5) := ⟨⟨by decide +kernel, by decide +kernel⟩, List.mem_of_getElem? (i := 19) (by decide +kernel), List.mem_of_getElem? (i := 244) (by decide +kernel), List.mem_of_getElem? (i := 245) (by decide +kernel)⟩
theorem lw_p8 : lw_okq (⟨"PlotterPlanner$Drawing", "liesOn", "(II)Z"⟩, 5) := ⟨⟨by decide +kernel, by decide +kernel⟩, List.mem_of_getElem? (i := 19) (by decide +kernel), List.mem_of_getElem? (i := 248) (by decide +kernel), List.mem_of_getElem? (i := 249) (by decide +kernel)⟩
theorem lw_p9 : lw_okq (⟨"PlotterPlanner$Drawing", "endXOf", "(I)I"⟩, 5) := ⟨⟨by decide +kernel, by decide +kernel⟩, List.mem_of_getElem? (i := 19) (by decide +kernel), List.mem_of_getElem? (i := 252) (by decide +kernel), List.mem_of_getElem? (i := 253) (by decide +kernel)⟩
theorem lw_p10 : lw_okq (⟨"PlotterPlanner$Drawing", "endYOf", "(I)I"⟩, 5) := ⟨⟨by decide +kernel, by decide +kernel⟩, List.mem_of_getElem? (i := 19) (by decide +kernel), List.mem_of_getElem? (i := 256) (by decide +kernel), List.mem_of_getElem? (i := 257) (by decide +kernel)⟩
theorem lw_p11 : lw_okq (⟨"PlotterPlanner$RunGraph", "joinComponents", "(LPlotterPlanner$Drawing;II)V"⟩, 1) := ⟨⟨by decide +kernel, by decide +kernel⟩, List.mem_of_getElem? (i := 86) (by decide +kernel), List.mem_of_getElem? (i := 285) (by decide +kernel), List.mem_of_getElem? (i := 286) (by decide +kernel)⟩
theorem lw_p12 : lw_okq (⟨"PlotterPlanner$RunGraph", "rename", "(III)V"⟩, 1) := ⟨⟨by decide +kernel, by decide +kernel⟩, List.mem_of_getElem? (i := 86) (by decide +kernel), List.mem_of_getElem? (i := 294) (by decide +kernel), List.mem_of_getElem? (i := 295) (by decide +kernel)⟩
theorem lw_p13 : lw_okq (⟨"PlotterPlanner$RunGraph", "countOddVertices", "(LPlotterPlanner$Drawing;II)I"⟩, 1) := ⟨⟨by decide +kernel, by decide +kernel⟩, List.mem_of_getElem? (i := 86) (by decide +kernel), List.mem_of_getElem? (i := 298) (by decide +kernel), List.mem_of_getElem? (i := 299) (by decide +kernel)⟩
theorem lw_p14 : lw_okq (⟨"PlotterPlanner$RunGraph", "isOddVertex", "(LPlotterPlanner$Drawing;II)Z"⟩, 1) := ⟨⟨by decide +kernel, by decide +kernel⟩, List.mem_of_getElem? (i := 86) (by decide +kernel), List.mem_of_getElem? (i := 302) (by decide +kernel), List.mem_of_getElem? (i := 303) (by decide +kernel)⟩
theorem lw_p15 : lw_okq (⟨"PlotterPlanner", "codeOrError", "(I)I"⟩, 8) := ⟨⟨by decide +kernel, by decide +kernel⟩, List.mem_of_getElem? (i := 11) (by decide +kernel), List.mem_of_getElem? (i := 311) (by decide +kernel), List.mem_of_getElem? (i := 312) (by decide +kernel)⟩
def lw_privs_1 : List (MethodName × Nat) := [(⟨"PlotterPlanner", "beginEdit", "()V"⟩, 8), (⟨"PlotterPlanner$History", "slotAt", "(I)LPlotterPlanner$Drawing;"⟩, 3), (⟨"PlotterPlanner$Drawing", "dropFromPlan", "(I)V"⟩, 5), (⟨"PlotterPlanner$Drawing", "areAlike", "(II)Z"⟩, 5), (⟨"PlotterPlanner$Drawing", "beginXOf", "(I)I"⟩, 5), (⟨"PlotterPlanner$Drawing", "hasCode", "(I)Z"⟩, 5), (⟨"PlotterPlanner$Drawing", "beginYOf", "(I)I"⟩, 5), (⟨"PlotterPlanner$Drawing", "covers", "(II)Z"⟩, 5), (⟨"PlotterPlanner$Drawing", "liesOn", "(II)Z"⟩, 5), (⟨"PlotterPlanner$Drawing", "endXOf", "(I)I"⟩, 5), (⟨"PlotterPlanner$Drawing", "endYOf", "(I)I"⟩, 5), (⟨"PlotterPlanner$RunGraph", "joinComponents", "(LPlotterPlanner$Drawing;II)V"⟩, 1), (⟨"PlotterPlanner$RunGraph", "rename", "(III)V"⟩, 1), (⟨"PlotterPlanner$RunGraph", "countOddVertices", "(LPlotterPlanner$Drawing;II)I"⟩, 1), (⟨"PlotterPlanner$RunGraph", "isOddVertex", "(LPlotterPlanner$Drawing;II)Z"⟩, 1), (⟨"PlotterPlanner", "codeOrError", "(I)I"⟩, 8)]
theorem lw_r1 : ∀ q ∈ lw_privs_1, lw_okq q := List.forall_mem_cons.mpr ⟨lw_p0, List.forall_mem_cons.mpr ⟨lw_p1, List.forall_mem_cons.mpr ⟨lw_p2, List.forall_mem_cons.mpr ⟨lw_p3, List.forall_mem_cons.mpr ⟨lw_p4, List.forall_mem_cons.mpr ⟨lw_p5, List.forall_mem_cons.mpr ⟨lw_p6, List.forall_mem_cons.mpr ⟨lw_p7, List.forall_mem_cons.mpr ⟨lw_p8, List.forall_mem_cons.mpr ⟨lw_p9, List.forall_mem_cons.mpr ⟨lw_p10, List.forall_mem_cons.mpr ⟨lw_p11, List.forall_mem_cons.mpr ⟨lw_p12, List.forall_mem_cons.mpr ⟨lw_p13, List.forall_mem_cons.mpr ⟨lw_p14, List.forall_mem_cons.mpr ⟨lw_p15, fun _ h => absurd h List.not_mem_nil⟩⟩⟩⟩⟩⟩⟩⟩⟩⟩⟩⟩⟩⟩⟩⟩
theorem lw_p16 : lw_okq (⟨"PlotterPlanner$Drawing", "changesPen", "(II)Z"⟩, 5) := ⟨⟨by decide +kernel, by decide +kernel⟩, List.mem_of_getElem? (i := 19) (by decide +kernel), List.mem_of_getElem? (i := 362) (by decide +kernel), List.mem_of_getElem? (i := 363) (by decide +kernel)⟩
theorem lw_p17 : lw_okq (⟨"PlotterPlanner$Drawing", "penOfCode", "(I)I"⟩, 5) := ⟨⟨by decide +kernel, by decide +kernel⟩, List.mem_of_getElem? (i := 19) (by decide +kernel), List.mem_of_getElem? (i := 366) (by decide +kernel), List.mem_of_getElem? (i := 367) (by decide +kernel)⟩
theorem lw_p18 : lw_okq (⟨"PlotterPlanner$BestPlan", "fillSteps", "(LPlotterPlanner$Drawing;I)V"⟩, 6) := ⟨⟨by decide +kernel, by decide +kernel⟩, List.mem_of_getElem? (i := 61) (by decide +kernel), List.mem_of_getElem? (i := 412) (by decide +kernel), List.mem_of_getElem? (i := 413) (by decide +kernel)⟩
theorem lw_p19 : lw_okq (⟨"PlotterPlanner$BestPlan", "fillRests", "(I)V"⟩, 6) := ⟨⟨by decide +kernel, by decide +kernel⟩, List.mem_of_getElem? (i := 61) (by decide +kernel), List.mem_of_getElem? (i := 417) (by decide +kernel), List.mem_of_getElem? (i := 418) (by decide +kernel)⟩
theorem lw_p20 : lw_okq (⟨"PlotterPlanner$BestPlan", "cheapestNext", "(II)I"⟩, 6) := ⟨⟨by decide +kernel, by decide +kernel⟩, List.mem_of_getElem? (i := 61) (by decide +kernel), List.mem_of_getElem? (i := 424) (by decide +kernel), List.mem_of_getElem? (i := 425) (by decide +kernel)⟩
theorem lw_p21 : lw_okq (⟨"PlotterPlanner$BestPlan", "costThrough", "(III)I"⟩, 6) := ⟨⟨by decide +kernel, by decide +kernel⟩, List.mem_of_getElem? (i := 61) (by decide +kernel), List.mem_of_getElem? (i := 428) (by decide +kernel), List.mem_of_getElem? (i := 429) (by decide +kernel)⟩
theorem lw_p22 : lw_okq (⟨"PlotterPlanner$BestPlan", "stepAt", "(II)I"⟩, 6) := ⟨⟨by decide +kernel, by decide +kernel⟩, List.mem_of_getElem? (i := 61) (by decide +kernel), List.mem_of_getElem? (i := 432) (by decide +kernel), List.mem_of_getElem? (i := 433) (by decide +kernel)⟩
theorem lw_p23 : lw_okq (⟨"PlotterPlanner$BestPlan", "restAt", "(II)I"⟩, 6) := ⟨⟨by decide +kernel, by decide +kernel⟩, List.mem_of_getElem? (i := 61) (by decide +kernel), List.mem_of_getElem? (i := 439) (by decide +kernel), List.mem_of_getElem? (i := 440) (by decide +kernel)⟩
theorem lw_p24 : lw_okq (⟨"PlotterPlanner$BestPlan", "follow", "(I)V"⟩, 6) := ⟨⟨by decide +kernel, by decide +kernel⟩, List.mem_of_getElem? (i := 61) (by decide +kernel), List.mem_of_getElem? (i := 443) (by decide +kernel), List.mem_of_getElem? (i := 444) (by decide +kernel)⟩
theorem lw_p25 : lw_okq (⟨"PlotterPlanner$Drawing", "nearestCode", "(III)I"⟩, 5) := ⟨⟨by decide +kernel, by decide +kernel⟩, List.mem_of_getElem? (i := 19) (by decide +kernel), List.mem_of_getElem? (i := 476) (by decide +kernel), List.mem_of_getElem? (i := 477) (by decide +kernel)⟩
theorem lw_p26 : lw_okq (⟨"PlotterPlannerModel", "edit", "()V"⟩, 10) := ⟨⟨by decide +kernel, by decide +kernel⟩, List.mem_of_getElem? (i := 548) (by decide +kernel), List.mem_of_getElem? (i := 596) (by decide +kernel), List.mem_of_getElem? (i := 597) (by decide +kernel)⟩
theorem lw_p27 : lw_okq (⟨"PlotterPlannerModel", "isStroke", "(I)Z"⟩, 10) := ⟨⟨by decide +kernel, by decide +kernel⟩, List.mem_of_getElem? (i := 548) (by decide +kernel), List.mem_of_getElem? (i := 604) (by decide +kernel), List.mem_of_getElem? (i := 605) (by decide +kernel)⟩
theorem lw_p28 : lw_okq (⟨"PlotterPlannerModel", "removes", "(I)V"⟩, 10) := ⟨⟨by decide +kernel, by decide +kernel⟩, List.mem_of_getElem? (i := 548) (by decide +kernel), List.mem_of_getElem? (i := 608) (by decide +kernel), List.mem_of_getElem? (i := 609) (by decide +kernel)⟩
theorem lw_p29 : lw_okq (⟨"PlotterPlannerModel", "penAt", "(I)I"⟩, 10) := ⟨⟨by decide +kernel, by decide +kernel⟩, List.mem_of_getElem? (i := 548) (by decide +kernel), List.mem_of_getElem? (i := 620) (by decide +kernel), List.mem_of_getElem? (i := 621) (by decide +kernel)⟩
theorem lw_p30 : lw_okq (⟨"PlotterPlannerModel", "areAlike", "(II)Z"⟩, 10) := ⟨⟨by decide +kernel, by decide +kernel⟩, List.mem_of_getElem? (i := 548) (by decide +kernel), List.mem_of_getElem? (i := 628) (by decide +kernel), List.mem_of_getElem? (i := 629) (by decide +kernel)⟩
theorem lw_p31 : lw_okq (⟨"PlotterPlannerModel", "lies", "(III)Z"⟩, 10) := ⟨⟨by decide +kernel, by decide +kernel⟩, List.mem_of_getElem? (i := 548) (by decide +kernel), List.mem_of_getElem? (i := 636) (by decide +kernel), List.mem_of_getElem? (i := 637) (by decide +kernel)⟩
def lw_privs_2 : List (MethodName × Nat) := [(⟨"PlotterPlanner$Drawing", "changesPen", "(II)Z"⟩, 5), (⟨"PlotterPlanner$Drawing", "penOfCode", "(I)I"⟩, 5), (⟨"PlotterPlanner$BestPlan", "fillSteps", "(LPlotterPlanner$Drawing;I)V"⟩, 6), (⟨"PlotterPlanner$BestPlan", "fillRests", "(I)V"⟩, 6), (⟨"PlotterPlanner$BestPlan", "cheapestNext", "(II)I"⟩, 6), (⟨"PlotterPlanner$BestPlan", "costThrough", "(III)I"⟩, 6), (⟨"PlotterPlanner$BestPlan", "stepAt", "(II)I"⟩, 6), (⟨"PlotterPlanner$BestPlan", "restAt", "(II)I"⟩, 6), (⟨"PlotterPlanner$BestPlan", "follow", "(I)V"⟩, 6), (⟨"PlotterPlanner$Drawing", "nearestCode", "(III)I"⟩, 5), (⟨"PlotterPlannerModel", "edit", "()V"⟩, 10), (⟨"PlotterPlannerModel", "isStroke", "(I)Z"⟩, 10), (⟨"PlotterPlannerModel", "removes", "(I)V"⟩, 10), (⟨"PlotterPlannerModel", "penAt", "(I)I"⟩, 10), (⟨"PlotterPlannerModel", "areAlike", "(II)Z"⟩, 10), (⟨"PlotterPlannerModel", "lies", "(III)Z"⟩, 10)]
theorem lw_r2 : ∀ q ∈ lw_privs_2, lw_okq q := List.forall_mem_cons.mpr ⟨lw_p16, List.forall_mem_cons.mpr ⟨lw_p17, List.forall_mem_cons.mpr ⟨lw_p18, List.forall_mem_cons.mpr ⟨lw_p19, List.forall_mem_cons.mpr ⟨lw_p20, List.forall_mem_cons.mpr ⟨lw_p21, List.forall_mem_cons.mpr ⟨lw_p22, List.forall_mem_cons.mpr ⟨lw_p23, List.forall_mem_cons.mpr ⟨lw_p24, List.forall_mem_cons.mpr ⟨lw_p25, List.forall_mem_cons.mpr ⟨lw_p26, List.forall_mem_cons.mpr ⟨lw_p27, List.forall_mem_cons.mpr ⟨lw_p28, List.forall_mem_cons.mpr ⟨lw_p29, List.forall_mem_cons.mpr ⟨lw_p30, List.forall_mem_cons.mpr ⟨lw_p31, fun _ h => absurd h List.not_mem_nil⟩⟩⟩⟩⟩⟩⟩⟩⟩⟩⟩⟩⟩⟩⟩⟩
theorem lw_p32 : lw_okq (⟨"PlotterPlannerModel", "joins", "(I)V"⟩, 10) := ⟨⟨by decide +kernel, by decide +kernel⟩, List.mem_of_getElem? (i := 548) (by decide +kernel), List.mem_of_getElem? (i := 651) (by decide +kernel), List.mem_of_getElem? (i := 652) (by decide +kernel)⟩
theorem lw_p33 : lw_okq (⟨"PlotterPlannerModel", "isOfPen", "(II)Z"⟩, 10) := ⟨⟨by decide +kernel, by decide +kernel⟩, List.mem_of_getElem? (i := 548) (by decide +kernel), List.mem_of_getElem? (i := 655) (by decide +kernel), List.mem_of_getElem? (i := 656) (by decide +kernel)⟩
theorem lw_p34 : lw_okq (⟨"PlotterPlannerModel", "isSamePoint", "(II)Z"⟩, 10) := ⟨⟨by decide +kernel, by decide +kernel⟩, List.mem_of_getElem? (i := 548) (by decide +kernel), List.mem_of_getElem? (i := 659) (by decide +kernel), List.mem_of_getElem? (i := 660) (by decide +kernel)⟩
theorem lw_p35 : lw_okq (⟨"PlotterPlannerModel", "degree", "(II)I"⟩, 10) := ⟨⟨by decide +kernel, by decide +kernel⟩, List.mem_of_getElem? (i := 548) (by decide +kernel), List.mem_of_getElem? (i := 663) (by decide +kernel), List.mem_of_getElem? (i := 664) (by decide +kernel)⟩
theorem lw_p36 : lw_okq (⟨"PlotterPlannerModel", "isPosition", "(I)Z"⟩, 10) := ⟨⟨by decide +kernel, by decide +kernel⟩, List.mem_of_getElem? (i := 548) (by decide +kernel), List.mem_of_getElem? (i := 671) (by decide +kernel), List.mem_of_getElem? (i := 672) (by decide +kernel)⟩
theorem lw_p37 : lw_okq (⟨"PlotterPlannerModel", "at", "(I)I"⟩, 10) := ⟨⟨by decide +kernel, by decide +kernel⟩, List.mem_of_getElem? (i := 548) (by decide +kernel), List.mem_of_getElem? (i := 675) (by decide +kernel), List.mem_of_getElem? (i := 676) (by decide +kernel)⟩
theorem lw_p38 : lw_okq (⟨"PlotterPlannerModel", "step", "(II)I"⟩, 10) := ⟨⟨by decide +kernel, by decide +kernel⟩, List.mem_of_getElem? (i := 548) (by decide +kernel), List.mem_of_getElem? (i := 695) (by decide +kernel), List.mem_of_getElem? (i := 696) (by decide +kernel)⟩
theorem lw_p39 : lw_okq (⟨"PlotterPlannerModel", "isLinked", "(I)Z"⟩, 10) := ⟨⟨by decide +kernel, by decide +kernel⟩, List.mem_of_getElem? (i := 548) (by decide +kernel), List.mem_of_getElem? (i := 716) (by decide +kernel), List.mem_of_getElem? (i := 717) (by decide +kernel)⟩
theorem lw_p40 : lw_okq (⟨"PlotterPlannerModel", "finds", "()I"⟩, 10) := ⟨⟨by decide +kernel, by decide +kernel⟩, List.mem_of_getElem? (i := 548) (by decide +kernel), List.mem_of_getElem? (i := 732) (by decide +kernel), List.mem_of_getElem? (i := 733) (by decide +kernel)⟩
theorem lw_p41 : lw_okq (⟨"PlotterPlannerModel", "ahead", "(II)I"⟩, 10) := ⟨⟨by decide +kernel, by decide +kernel⟩, List.mem_of_getElem? (i := 548) (by decide +kernel), List.mem_of_getElem? (i := 736) (by decide +kernel), List.mem_of_getElem? (i := 737) (by decide +kernel)⟩
theorem lw_p42 : lw_okq (⟨"PlotterPlannerModel", "corner", "(I)I"⟩, 10) := ⟨⟨by decide +kernel, by decide +kernel⟩, List.mem_of_getElem? (i := 548) (by decide +kernel), List.mem_of_getElem? (i := 765) (by decide +kernel), List.mem_of_getElem? (i := 766) (by decide +kernel)⟩
theorem lw_p43 : lw_okq (⟨"PlotterPlannerModel", "dx", "(I)I"⟩, 10) := ⟨⟨by decide +kernel, by decide +kernel⟩, List.mem_of_getElem? (i := 548) (by decide +kernel), List.mem_of_getElem? (i := 769) (by decide +kernel), List.mem_of_getElem? (i := 770) (by decide +kernel)⟩
theorem lw_p44 : lw_okq (⟨"PlotterPlannerModel", "dy", "(I)I"⟩, 10) := ⟨⟨by decide +kernel, by decide +kernel⟩, List.mem_of_getElem? (i := 548) (by decide +kernel), List.mem_of_getElem? (i := 773) (by decide +kernel), List.mem_of_getElem? (i := 774) (by decide +kernel)⟩
theorem lw_p45 : lw_okq (⟨"PlotterPlannerModel", "speeds", "()V"⟩, 10) := ⟨⟨by decide +kernel, by decide +kernel⟩, List.mem_of_getElem? (i := 548) (by decide +kernel), List.mem_of_getElem? (i := 781) (by decide +kernel), List.mem_of_getElem? (i := 782) (by decide +kernel)⟩
theorem lw_p46 : lw_okq (⟨"PlotterPlannerModel", "before", "(I)I"⟩, 10) := ⟨⟨by decide +kernel, by decide +kernel⟩, List.mem_of_getElem? (i := 548) (by decide +kernel), List.mem_of_getElem? (i := 785) (by decide +kernel), List.mem_of_getElem? (i := 786) (by decide +kernel)⟩
theorem lw_p47 : lw_okq (⟨"PlotterPlannerModel", "gain", "(I)I"⟩, 10) := ⟨⟨by decide +kernel, by decide +kernel⟩, List.mem_of_getElem? (i := 548) (by decide +kernel), List.mem_of_getElem? (i := 789) (by decide +kernel), List.mem_of_getElem? (i := 790) (by decide +kernel)⟩
def lw_privs_3 : List (MethodName × Nat) := [(⟨"PlotterPlannerModel", "joins", "(I)V"⟩, 10), (⟨"PlotterPlannerModel", "isOfPen", "(II)Z"⟩, 10), (⟨"PlotterPlannerModel", "isSamePoint", "(II)Z"⟩, 10), (⟨"PlotterPlannerModel", "degree", "(II)I"⟩, 10), (⟨"PlotterPlannerModel", "isPosition", "(I)Z"⟩, 10), (⟨"PlotterPlannerModel", "at", "(I)I"⟩, 10), (⟨"PlotterPlannerModel", "step", "(II)I"⟩, 10), (⟨"PlotterPlannerModel", "isLinked", "(I)Z"⟩, 10), (⟨"PlotterPlannerModel", "finds", "()I"⟩, 10), (⟨"PlotterPlannerModel", "ahead", "(II)I"⟩, 10), (⟨"PlotterPlannerModel", "corner", "(I)I"⟩, 10), (⟨"PlotterPlannerModel", "dx", "(I)I"⟩, 10), (⟨"PlotterPlannerModel", "dy", "(I)I"⟩, 10), (⟨"PlotterPlannerModel", "speeds", "()V"⟩, 10), (⟨"PlotterPlannerModel", "before", "(I)I"⟩, 10), (⟨"PlotterPlannerModel", "gain", "(I)I"⟩, 10)]
theorem lw_r3 : ∀ q ∈ lw_privs_3, lw_okq q := List.forall_mem_cons.mpr ⟨lw_p32, List.forall_mem_cons.mpr ⟨lw_p33, List.forall_mem_cons.mpr ⟨lw_p34, List.forall_mem_cons.mpr ⟨lw_p35, List.forall_mem_cons.mpr ⟨lw_p36, List.forall_mem_cons.mpr ⟨lw_p37, List.forall_mem_cons.mpr ⟨lw_p38, List.forall_mem_cons.mpr ⟨lw_p39, List.forall_mem_cons.mpr ⟨lw_p40, List.forall_mem_cons.mpr ⟨lw_p41, List.forall_mem_cons.mpr ⟨lw_p42, List.forall_mem_cons.mpr ⟨lw_p43, List.forall_mem_cons.mpr ⟨lw_p44, List.forall_mem_cons.mpr ⟨lw_p45, List.forall_mem_cons.mpr ⟨lw_p46, List.forall_mem_cons.mpr ⟨lw_p47, fun _ h => absurd h List.not_mem_nil⟩⟩⟩⟩⟩⟩⟩⟩⟩⟩⟩⟩⟩⟩⟩⟩
def lw_privs : List (MethodName × Nat) := lw_privs_1 ++ (lw_privs_2 ++ (lw_privs_3))
def lw_tbl : List Cond := k2_sels lw_privs ++ tables_1
theorem lw_privs_ok : ∀ q ∈ lw_privs, lw_okq q := by
  show ∀ q ∈ lw_privs_1 ++ (lw_privs_2 ++ (lw_privs_3)), lw_okq q
  exact List.forall_mem_append.mpr ⟨lw_r1, List.forall_mem_append.mpr ⟨lw_r2, lw_r3⟩⟩
/-! ===== BEGIN words of one list among another's, by their places ===== -/
theorem goodIn_r {big : List Cond} (ws : List Cond) (ps : List Nat) (hp : ws = ps.filterMap (fun i => big[i]?)) (h : ws.all goodWord = true) : GoodIn big ws := by
  intro w hw
  have h1 := List.all_eq_true.mp h w hw
  rw [hp] at hw
  obtain ⟨i, -, hi⟩ := List.mem_filterMap.mp hw
  have hm : w ∈ big := by first | exact List.mem_of_getElem? hi | exact List.getElem?_mem hi
  exact ⟨hm, good_of_word h1⟩
theorem goodIn_app {big a b : List Cond} (ha : GoodIn big a) (hb : GoodIn big b) : GoodIn big (a ++ b) := fun w h => (List.mem_append.mp h).elim (ha w) (hb w)
theorem goodIn_ca {big a b : List Cond} {c : Cond} (ha : GoodIn big (c :: a)) (hb : GoodIn big b) : GoodIn big (c :: (a ++ b)) := fun w h => (List.mem_cons.mp h).elim (fun e => ha w (List.mem_cons.mpr (Or.inl e))) (fun h => (List.mem_append.mp h).elim (fun h => ha w (List.mem_cons.mpr (Or.inr h))) (hb w))
theorem goodIn_sub {big ws : List Cond} (hm : ∀ w ∈ ws, w ∈ big) (h : ws.all goodWord = true) : GoodIn big ws := fun w hw => ⟨hm w hw, good_of_word (List.all_eq_true.mp h w hw)⟩
/-! ===== END ===== -/

/-! ===== BEGIN printed: names, fields, word lists, decode rows ===== -/
def RX0 : String := "PlotterPlanner$BestPlan"
def TX0 : u_T := fun k => match k with
  | 0 => ("PlotterPlanner$BestPlan", "steps", "[I", true)
  | 1 => ("PlotterPlanner$BestPlan", "rests", "[I", true)
  | 2 => ("PlotterPlanner$BestPlan", "codes", "[I", true)
  | 3 => ("PlotterPlanner$BestPlan", "codeCount", "I", false)
  | 4 => ("PlotterPlanner$BestPlan", "total", "I", false)
  | _ => ("PlotterPlanner$BestPlan", "known", "Z", false)
def tyX0 : Nat → FieldType := fun k => match k with
  | 0 => .array .int
  | 1 => .array .int
  | 2 => .array .int
  | 3 => .int
  | 4 => .int
  | _ => .boolean
abbrev wsX00 : List Cond := u_ws RX0 TX0 6
theorem nmX0 : ∀ a, a < 6 → ∀ b, b < 6 → a ≠ b → (TX0 a).2.1 ≠ (TX0 b).2.1 := by decide +kernel
theorem tyX0_ok : ∀ k, k < 6 → parseFieldDescriptor (TX0 k).2.2.1 = some (tyX0 k) := by decide +kernel
abbrev cX0_init : ByteArray := prog_2_method_1_code
def yX0_init : MethodName := ⟨RX0, "<init>", "()V"⟩
abbrev cX0_forget : ByteArray := prog_2_method_2_code
def yX0_forget : MethodName := ⟨RX0, "forget", "()V"⟩
abbrev cX0_total : ByteArray := prog_2_method_3_code
def yX0_total : MethodName := ⟨RX0, "total", "()I"⟩
abbrev cX0_codeAt : ByteArray := prog_2_method_4_code
def yX0_codeAt : MethodName := ⟨RX0, "codeAt", "(I)I"⟩
abbrev cX0_find : ByteArray := prog_2_method_5_code
def yX0_find : MethodName := ⟨RX0, "find", "(LPlotterPlanner$Drawing;I)V"⟩
abbrev cX0_fillSteps : ByteArray := prog_2_method_6_code
def yX0_fillSteps : MethodName := ⟨RX0, "fillSteps", "(LPlotterPlanner$Drawing;I)V"⟩
abbrev cX0_fillRests : ByteArray := prog_2_method_7_code
def yX0_fillRests : MethodName := ⟨RX0, "fillRests", "(I)V"⟩
abbrev cX0_follow : ByteArray := prog_2_method_8_code
def yX0_follow : MethodName := ⟨RX0, "follow", "(I)V"⟩
abbrev cX0_cheapestNext : ByteArray := prog_2_method_9_code
def yX0_cheapestNext : MethodName := ⟨RX0, "cheapestNext", "(II)I"⟩
abbrev cX0_costThrough : ByteArray := prog_2_method_10_code
def yX0_costThrough : MethodName := ⟨RX0, "costThrough", "(III)I"⟩
abbrev cX0_stepAt : ByteArray := prog_2_method_11_code
def yX0_stepAt : MethodName := ⟨RX0, "stepAt", "(II)I"⟩
abbrev cX0_restAt : ByteArray := prog_2_method_12_code
def yX0_restAt : MethodName := ⟨RX0, "restAt", "(II)I"⟩
abbrev cX0_contains : ByteArray := prog_2_method_13_code
def yX0_contains : MethodName := ⟨RX0, "contains", "(II)Z"⟩
abbrev cX0_without : ByteArray := prog_2_method_14_code
def yX0_without : MethodName := ⟨RX0, "without", "(II)I"⟩
def RX1 : String := "PlotterPlanner$Drawing"
def TX1 : u_T := fun k => match k with
  | 0 => ("PlotterPlanner$Drawing", "size", "I", false)
  | 1 => ("PlotterPlanner$Drawing", "pens", "[I", true)
  | 2 => ("PlotterPlanner$Drawing", "beginX", "[I", true)
  | 3 => ("PlotterPlanner$Drawing", "beginY", "[I", true)
  | _ => ("PlotterPlanner$Drawing", "plan", "[I", true)
def tyX1 : Nat → FieldType := fun k => match k with
  | 0 => .int
  | 1 => .array .int
  | 2 => .array .int
  | 3 => .array .int
  | _ => .array .int
abbrev wsX10 : List Cond := u_ws RX1 TX1 5
theorem nmX1 : ∀ a, a < 5 → ∀ b, b < 5 → a ≠ b → (TX1 a).2.1 ≠ (TX1 b).2.1 := by decide +kernel
theorem tyX1_ok : ∀ k, k < 5 → parseFieldDescriptor (TX1 k).2.2.1 = some (tyX1 k) := by decide +kernel
abbrev cX1_init : ByteArray := prog_3_method_1_code
def yX1_init : MethodName := ⟨RX1, "<init>", "()V"⟩
abbrev cX1_size : ByteArray := prog_3_method_2_code
def yX1_size : MethodName := ⟨RX1, "size", "()I"⟩
abbrev cX1_hasStroke : ByteArray := prog_3_method_3_code
def yX1_hasStroke : MethodName := ⟨RX1, "hasStroke", "(I)Z"⟩
abbrev cX1_hasPosition : ByteArray := prog_3_method_4_code
def yX1_hasPosition : MethodName := ⟨RX1, "hasPosition", "(I)Z"⟩
abbrev cX1_penOfStroke : ByteArray := prog_3_method_5_code
def yX1_penOfStroke : MethodName := ⟨RX1, "penOfStroke", "(I)I"⟩
abbrev cX1_codeAt : ByteArray := prog_3_method_6_code
def yX1_codeAt : MethodName := ⟨RX1, "codeAt", "(I)I"⟩
abbrev cX1_setCode : ByteArray := prog_3_method_7_code
def yX1_setCode : MethodName := ⟨RX1, "setCode", "(II)V"⟩
abbrev cX1_copyFrom : ByteArray := prog_3_method_8_code
def yX1_copyFrom : MethodName := ⟨RX1, "copyFrom", "(LPlotterPlanner$Drawing;)V"⟩
abbrev cX1_append : ByteArray := prog_3_method_9_code
def yX1_append : MethodName := ⟨RX1, "append", "(IIIII)I"⟩
abbrev cX1_drop : ByteArray := prog_3_method_10_code
def yX1_drop : MethodName := ⟨RX1, "drop", "(I)V"⟩
abbrev cX1_dropFromPlan : ByteArray := prog_3_method_11_code
def yX1_dropFromPlan : MethodName := ⟨RX1, "dropFromPlan", "(I)V"⟩
abbrev cX1_dropDuplicates : ByteArray := prog_3_method_12_code
def yX1_dropDuplicates : MethodName := ⟨RX1, "dropDuplicates", "()I"⟩
abbrev cX1_move : ByteArray := prog_3_method_13_code
def yX1_move : MethodName := ⟨RX1, "move", "(II)V"⟩
abbrev cX1_turn : ByteArray := prog_3_method_14_code
def yX1_turn : MethodName := ⟨RX1, "turn", "(I)V"⟩
abbrev cX1_orderByNearest : ByteArray := prog_3_method_15_code
def yX1_orderByNearest : MethodName := ⟨RX1, "orderByNearest", "(I)V"⟩
abbrev cX1_nearestCode : ByteArray := prog_3_method_16_code
def yX1_nearestCode : MethodName := ⟨RX1, "nearestCode", "(III)I"⟩
abbrev cX1_stepCost : ByteArray := prog_3_method_17_code
def yX1_stepCost : MethodName := ⟨RX1, "stepCost", "(III)I"⟩
abbrev cX1_planCost : ByteArray := prog_3_method_18_code
def yX1_planCost : MethodName := ⟨RX1, "planCost", "(I)I"⟩
abbrev cX1_countPenChanges : ByteArray := prog_3_method_19_code
def yX1_countPenChanges : MethodName := ⟨RX1, "countPenChanges", "()I"⟩
abbrev cX1_changesPen : ByteArray := prog_3_method_20_code
def yX1_changesPen : MethodName := ⟨RX1, "changesPen", "(II)Z"⟩
abbrev cX1_isLinkedToNext : ByteArray := prog_3_method_21_code
def yX1_isLinkedToNext : MethodName := ⟨RX1, "isLinkedToNext", "(I)Z"⟩
abbrev cX1_countRuns : ByteArray := prog_3_method_22_code
def yX1_countRuns : MethodName := ⟨RX1, "countRuns", "()I"⟩
abbrev cX1_lengthOfRun : ByteArray := prog_3_method_23_code
def yX1_lengthOfRun : MethodName := ⟨RX1, "lengthOfRun", "(I)I"⟩
abbrev cX1_lowestAlike : ByteArray := prog_3_method_24_code
def yX1_lowestAlike : MethodName := ⟨RX1, "lowestAlike", "(I)I"⟩
abbrev cX1_lowestCover : ByteArray := prog_3_method_25_code
def yX1_lowestCover : MethodName := ⟨RX1, "lowestCover", "(I)I"⟩
abbrev cX1_areAlike : ByteArray := prog_3_method_26_code
def yX1_areAlike : MethodName := ⟨RX1, "areAlike", "(II)Z"⟩
abbrev cX1_covers : ByteArray := prog_3_method_27_code
def yX1_covers : MethodName := ⟨RX1, "covers", "(II)Z"⟩
abbrev cX1_liesOn : ByteArray := prog_3_method_28_code
def yX1_liesOn : MethodName := ⟨RX1, "liesOn", "(II)Z"⟩
abbrev cX1_samePoint : ByteArray := prog_3_method_29_code
def yX1_samePoint : MethodName := ⟨RX1, "samePoint", "(II)Z"⟩
abbrev cX1_lengthAt : ByteArray := prog_3_method_30_code
def yX1_lengthAt : MethodName := ⟨RX1, "lengthAt", "(I)I"⟩
abbrev cX1_cornerSquare : ByteArray := prog_3_method_31_code
def yX1_cornerSquare : MethodName := ⟨RX1, "cornerSquare", "(II)I"⟩
abbrev cX1_wayLength : ByteArray := prog_3_method_32_code
def yX1_wayLength : MethodName := ⟨RX1, "wayLength", "(IIII)I"⟩
abbrev cX1_hasCode : ByteArray := prog_3_method_33_code
def yX1_hasCode : MethodName := ⟨RX1, "hasCode", "(I)Z"⟩
abbrev cX1_penOfCode : ByteArray := prog_3_method_34_code
def yX1_penOfCode : MethodName := ⟨RX1, "penOfCode", "(I)I"⟩
abbrev cX1_beginXOf : ByteArray := prog_3_method_35_code
def yX1_beginXOf : MethodName := ⟨RX1, "beginXOf", "(I)I"⟩
abbrev cX1_beginYOf : ByteArray := prog_3_method_36_code
def yX1_beginYOf : MethodName := ⟨RX1, "beginYOf", "(I)I"⟩
abbrev cX1_endXOf : ByteArray := prog_3_method_37_code
def yX1_endXOf : MethodName := ⟨RX1, "endXOf", "(I)I"⟩
abbrev cX1_endYOf : ByteArray := prog_3_method_38_code
def yX1_endYOf : MethodName := ⟨RX1, "endYOf", "(I)I"⟩
def RX2 : String := "PlotterPlanner$History"
def TX2 : u_T := fun k => match k with
  | 0 => ("PlotterPlanner$History", "ring", "[LPlotterPlanner$Drawing;", true)
  | 1 => ("PlotterPlanner$History", "next", "I", false)
  | _ => ("PlotterPlanner$History", "depth", "I", false)
def tyX2 : Nat → FieldType := fun k => match k with
  | 0 => .array (.object "PlotterPlanner$Drawing")
  | 1 => .int
  | _ => .int
abbrev wsX20 : List Cond := u_ws RX2 TX2 3
theorem nmX2 : ∀ a, a < 3 → ∀ b, b < 3 → a ≠ b → (TX2 a).2.1 ≠ (TX2 b).2.1 := by decide +kernel
theorem tyX2_ok : ∀ k, k < 3 → parseFieldDescriptor (TX2 k).2.2.1 = some (tyX2 k) := by decide +kernel
abbrev cX2_init : ByteArray := prog_4_method_1_code
def yX2_init : MethodName := ⟨RX2, "<init>", "()V"⟩
abbrev cX2_isEmpty : ByteArray := prog_4_method_2_code
def yX2_isEmpty : MethodName := ⟨RX2, "isEmpty", "()Z"⟩
abbrev cX2_depth : ByteArray := prog_4_method_3_code
def yX2_depth : MethodName := ⟨RX2, "depth", "()I"⟩
abbrev cX2_keep : ByteArray := prog_4_method_4_code
def yX2_keep : MethodName := ⟨RX2, "keep", "(LPlotterPlanner$Drawing;)V"⟩
abbrev cX2_restore : ByteArray := prog_4_method_5_code
def yX2_restore : MethodName := ⟨RX2, "restore", "(LPlotterPlanner$Drawing;)V"⟩
abbrev cX2_slotAt : ByteArray := prog_4_method_6_code
def yX2_slotAt : MethodName := ⟨RX2, "slotAt", "(I)LPlotterPlanner$Drawing;"⟩
def RX3 : String := "PlotterPlanner$RunGraph"
def TX3 : u_T := fun k => match k with
  | _ => ("PlotterPlanner$RunGraph", "components", "[I", true)
def tyX3 : Nat → FieldType := fun k => match k with
  | _ => .array .int
abbrev wsX30 : List Cond := u_ws RX3 TX3 1
theorem nmX3 : ∀ a, a < 1 → ∀ b, b < 1 → a ≠ b → (TX3 a).2.1 ≠ (TX3 b).2.1 := by decide +kernel
theorem tyX3_ok : ∀ k, k < 1 → parseFieldDescriptor (TX3 k).2.2.1 = some (tyX3 k) := by decide +kernel
abbrev cX3_init : ByteArray := prog_5_method_1_code
def yX3_init : MethodName := ⟨RX3, "<init>", "()V"⟩
abbrev cX3_fewestRuns : ByteArray := prog_5_method_2_code
def yX3_fewestRuns : MethodName := ⟨RX3, "fewestRuns", "(LPlotterPlanner$Drawing;I)I"⟩
abbrev cX3_joinComponents : ByteArray := prog_5_method_3_code
def yX3_joinComponents : MethodName := ⟨RX3, "joinComponents", "(LPlotterPlanner$Drawing;II)V"⟩
abbrev cX3_touch : ByteArray := prog_5_method_4_code
def yX3_touch : MethodName := ⟨RX3, "touch", "(LPlotterPlanner$Drawing;II)Z"⟩
abbrev cX3_rename : ByteArray := prog_5_method_5_code
def yX3_rename : MethodName := ⟨RX3, "rename", "(III)V"⟩
abbrev cX3_countOddVertices : ByteArray := prog_5_method_6_code
def yX3_countOddVertices : MethodName := ⟨RX3, "countOddVertices", "(LPlotterPlanner$Drawing;II)I"⟩
abbrev cX3_isOddVertex : ByteArray := prog_5_method_7_code
def yX3_isOddVertex : MethodName := ⟨RX3, "isOddVertex", "(LPlotterPlanner$Drawing;II)Z"⟩
def RX4 : String := "PlotterPlanner$Speeds"
def TX4 : u_T := fun k => match k with
  | _ => ("PlotterPlanner$Speeds", "ends", "[I", true)
def tyX4 : Nat → FieldType := fun k => match k with
  | _ => .array .int
abbrev wsX40 : List Cond := u_ws RX4 TX4 1
theorem nmX4 : ∀ a, a < 1 → ∀ b, b < 1 → a ≠ b → (TX4 a).2.1 ≠ (TX4 b).2.1 := by decide +kernel
theorem tyX4_ok : ∀ k, k < 1 → parseFieldDescriptor (TX4 k).2.2.1 = some (tyX4 k) := by decide +kernel
abbrev cX4_init : ByteArray := prog_6_method_1_code
def yX4_init : MethodName := ⟨RX4, "<init>", "()V"⟩
abbrev cX4_compute : ByteArray := prog_6_method_2_code
def yX4_compute : MethodName := ⟨RX4, "compute", "(LPlotterPlanner$Drawing;II)V"⟩
abbrev cX4_endAt : ByteArray := prog_6_method_3_code
def yX4_endAt : MethodName := ⟨RX4, "endAt", "(I)I"⟩
abbrev cX4_beginAt : ByteArray := prog_6_method_4_code
def yX4_beginAt : MethodName := ⟨RX4, "beginAt", "(I)I"⟩
def RX5 : String := "PlotterPlanner"
def TX5 : u_T := fun k => match k with
  | 0 => ("PlotterPlanner", "drawing", "LPlotterPlanner$Drawing;", true)
  | 1 => ("PlotterPlanner", "history", "LPlotterPlanner$History;", true)
  | 2 => ("PlotterPlanner", "best", "LPlotterPlanner$BestPlan;", true)
  | 3 => ("PlotterPlanner", "graph", "LPlotterPlanner$RunGraph;", true)
  | 4 => ("PlotterPlanner", "speeds", "LPlotterPlanner$Speeds;", true)
  | 5 => ("PlotterPlanner", "penCost", "I", false)
  | 6 => ("PlotterPlanner", "squareLimit", "I", false)
  | _ => ("PlotterPlanner", "acceleration", "I", false)
def tyX5 : Nat → FieldType := fun k => match k with
  | 0 => .object "PlotterPlanner$Drawing"
  | 1 => .object "PlotterPlanner$History"
  | 2 => .object "PlotterPlanner$BestPlan"
  | 3 => .object "PlotterPlanner$RunGraph"
  | 4 => .object "PlotterPlanner$Speeds"
  | 5 => .int
  | 6 => .int
  | _ => .int
abbrev wsX50 : List Cond := u_ws RX5 TX5 8
theorem nmX5 : ∀ a, a < 8 → ∀ b, b < 8 → a ≠ b → (TX5 a).2.1 ≠ (TX5 b).2.1 := by decide +kernel
theorem tyX5_ok : ∀ k, k < 8 → parseFieldDescriptor (TX5 k).2.2.1 = some (tyX5 k) := by decide +kernel
abbrev cX5_init : ByteArray := prog_1_method_1_code
def yX5_init : MethodName := ⟨RX5, "<init>", "()V"⟩
abbrev cX5_addStroke : ByteArray := prog_1_method_2_code
def yX5_addStroke : MethodName := ⟨RX5, "addStroke", "(IIIII)I"⟩
abbrev cX5_removeStroke : ByteArray := prog_1_method_3_code
def yX5_removeStroke : MethodName := ⟨RX5, "removeStroke", "(I)I"⟩
abbrev cX5_strokeCount : ByteArray := prog_1_method_4_code
def yX5_strokeCount : MethodName := ⟨RX5, "strokeCount", "()I"⟩
abbrev cX5_penOf : ByteArray := prog_1_method_5_code
def yX5_penOf : MethodName := ⟨RX5, "penOf", "(I)I"⟩
abbrev cX5_alikeTo : ByteArray := prog_1_method_6_code
def yX5_alikeTo : MethodName := ⟨RX5, "alikeTo", "(I)I"⟩
abbrev cX5_coveredBy : ByteArray := prog_1_method_7_code
def yX5_coveredBy : MethodName := ⟨RX5, "coveredBy", "(I)I"⟩
abbrev cX5_removeDuplicates : ByteArray := prog_1_method_8_code
def yX5_removeDuplicates : MethodName := ⟨RX5, "removeDuplicates", "()I"⟩
abbrev cX5_leastRuns : ByteArray := prog_1_method_9_code
def yX5_leastRuns : MethodName := ⟨RX5, "leastRuns", "(I)I"⟩
abbrev cX5_strokeAt : ByteArray := prog_1_method_10_code
def yX5_strokeAt : MethodName := ⟨RX5, "strokeAt", "(I)I"⟩
abbrev cX5_directionAt : ByteArray := prog_1_method_11_code
def yX5_directionAt : MethodName := ⟨RX5, "directionAt", "(I)I"⟩
abbrev cX5_movePosition : ByteArray := prog_1_method_12_code
def yX5_movePosition : MethodName := ⟨RX5, "movePosition", "(II)I"⟩
abbrev cX5_turnPosition : ByteArray := prog_1_method_13_code
def yX5_turnPosition : MethodName := ⟨RX5, "turnPosition", "(I)I"⟩
abbrev cX5_cost : ByteArray := prog_1_method_14_code
def yX5_cost : MethodName := ⟨RX5, "cost", "()I"⟩
abbrev cX5_penChanges : ByteArray := prog_1_method_15_code
def yX5_penChanges : MethodName := ⟨RX5, "penChanges", "()I"⟩
abbrev cX5_runCount : ByteArray := prog_1_method_16_code
def yX5_runCount : MethodName := ⟨RX5, "runCount", "()I"⟩
abbrev cX5_runLength : ByteArray := prog_1_method_17_code
def yX5_runLength : MethodName := ⟨RX5, "runLength", "(I)I"⟩
abbrev cX5_setPenCost : ByteArray := prog_1_method_18_code
def yX5_setPenCost : MethodName := ⟨RX5, "setPenCost", "(I)I"⟩
abbrev cX5_bestCost : ByteArray := prog_1_method_19_code
def yX5_bestCost : MethodName := ⟨RX5, "bestCost", "()I"⟩
abbrev cX5_bestAt : ByteArray := prog_1_method_20_code
def yX5_bestAt : MethodName := ⟨RX5, "bestAt", "(I)I"⟩
abbrev cX5_adoptBest : ByteArray := prog_1_method_21_code
def yX5_adoptBest : MethodName := ⟨RX5, "adoptBest", "()I"⟩
abbrev cX5_adoptNearest : ByteArray := prog_1_method_22_code
def yX5_adoptNearest : MethodName := ⟨RX5, "adoptNearest", "()I"⟩
abbrev cX5_setSquareLimit : ByteArray := prog_1_method_23_code
def yX5_setSquareLimit : MethodName := ⟨RX5, "setSquareLimit", "(I)I"⟩
abbrev cX5_setAcceleration : ByteArray := prog_1_method_24_code
def yX5_setAcceleration : MethodName := ⟨RX5, "setAcceleration", "(I)I"⟩
abbrev cX5_cornerLimit : ByteArray := prog_1_method_25_code
def yX5_cornerLimit : MethodName := ⟨RX5, "cornerLimit", "(I)I"⟩
abbrev cX5_endSquare : ByteArray := prog_1_method_26_code
def yX5_endSquare : MethodName := ⟨RX5, "endSquare", "(I)I"⟩
abbrev cX5_peakSquare : ByteArray := prog_1_method_27_code
def yX5_peakSquare : MethodName := ⟨RX5, "peakSquare", "(I)I"⟩
abbrev cX5_undo : ByteArray := prog_1_method_28_code
def yX5_undo : MethodName := ⟨RX5, "undo", "()I"⟩
abbrev cX5_beginEdit : ByteArray := prog_1_method_29_code
def yX5_beginEdit : MethodName := ⟨RX5, "beginEdit", "()V"⟩
abbrev cX5_codeOrError : ByteArray := prog_1_method_30_code
def yX5_codeOrError : MethodName := ⟨RX5, "codeOrError", "(I)I"⟩
abbrev cX5_isPoint : ByteArray := prog_1_method_31_code
def yX5_isPoint : MethodName := ⟨RX5, "isPoint", "(II)Z"⟩
abbrev cX5_isPen : ByteArray := prog_1_method_32_code
def yX5_isPen : MethodName := ⟨RX5, "isPen", "(I)Z"⟩
abbrev cX5_isWithin : ByteArray := prog_1_method_33_code
def yX5_isWithin : MethodName := ⟨RX5, "isWithin", "(III)Z"⟩
def RX6 : String := "PlotterPlannerModel"
def TX6 : u_T := fun k => match k with
  | 0 => ("PlotterPlannerModel", "now", "[I", true)
  | 1 => ("PlotterPlannerModel", "history", "[I", true)
  | 2 => ("PlotterPlannerModel", "edits", "I", false)
  | 3 => ("PlotterPlannerModel", "penCost", "I", false)
  | 4 => ("PlotterPlannerModel", "limit", "I", false)
  | 5 => ("PlotterPlannerModel", "acceleration", "I", false)
  | 6 => ("PlotterPlannerModel", "rest", "[I", true)
  | 7 => ("PlotterPlannerModel", "best", "[I", true)
  | 8 => ("PlotterPlannerModel", "net", "[I", true)
  | _ => ("PlotterPlannerModel", "ends", "[I", true)
def tyX6 : Nat → FieldType := fun k => match k with
  | 0 => .array .int
  | 1 => .array .int
  | 2 => .int
  | 3 => .int
  | 4 => .int
  | 5 => .int
  | 6 => .array .int
  | 7 => .array .int
  | 8 => .array .int
  | _ => .array .int
abbrev wsX60 : List Cond := u_ws RX6 TX6 10
theorem nmX6 : ∀ a, a < 10 → ∀ b, b < 10 → a ≠ b → (TX6 a).2.1 ≠ (TX6 b).2.1 := by decide +kernel
theorem tyX6_ok : ∀ k, k < 10 → parseFieldDescriptor (TX6 k).2.2.1 = some (tyX6 k) := by decide +kernel
abbrev cX6_init : ByteArray := prog_8_method_1_code
def yX6_init : MethodName := ⟨RX6, "<init>", "()V"⟩
abbrev cX6_in : ByteArray := prog_8_method_2_code
def yX6_in : MethodName := ⟨RX6, "in", "(III)Z"⟩
abbrev cX6_isStroke : ByteArray := prog_8_method_3_code
def yX6_isStroke : MethodName := ⟨RX6, "isStroke", "(I)Z"⟩
abbrev cX6_edit : ByteArray := prog_8_method_4_code
def yX6_edit : MethodName := ⟨RX6, "edit", "()V"⟩
abbrev cX6_undo : ByteArray := prog_8_method_5_code
def yX6_undo : MethodName := ⟨RX6, "undo", "()I"⟩
abbrev cX6_addStroke : ByteArray := prog_8_method_6_code
def yX6_addStroke : MethodName := ⟨RX6, "addStroke", "(IIIII)I"⟩
abbrev cX6_removes : ByteArray := prog_8_method_7_code
def yX6_removes : MethodName := ⟨RX6, "removes", "(I)V"⟩
abbrev cX6_removeStroke : ByteArray := prog_8_method_8_code
def yX6_removeStroke : MethodName := ⟨RX6, "removeStroke", "(I)I"⟩
abbrev cX6_strokeCount : ByteArray := prog_8_method_9_code
def yX6_strokeCount : MethodName := ⟨RX6, "strokeCount", "()I"⟩
abbrev cX6_penAt : ByteArray := prog_8_method_10_code
def yX6_penAt : MethodName := ⟨RX6, "penAt", "(I)I"⟩
abbrev cX6_penOf : ByteArray := prog_8_method_11_code
def yX6_penOf : MethodName := ⟨RX6, "penOf", "(I)I"⟩
abbrev cX6_areAlike : ByteArray := prog_8_method_12_code
def yX6_areAlike : MethodName := ⟨RX6, "areAlike", "(II)Z"⟩
abbrev cX6_alikeTo : ByteArray := prog_8_method_13_code
def yX6_alikeTo : MethodName := ⟨RX6, "alikeTo", "(I)I"⟩
abbrev cX6_isBetween : ByteArray := prog_8_method_14_code
def yX6_isBetween : MethodName := ⟨RX6, "isBetween", "(III)Z"⟩
abbrev cX6_lies : ByteArray := prog_8_method_15_code
def yX6_lies : MethodName := ⟨RX6, "lies", "(III)Z"⟩
abbrev cX6_coveredBy : ByteArray := prog_8_method_16_code
def yX6_coveredBy : MethodName := ⟨RX6, "coveredBy", "(I)I"⟩
abbrev cX6_removeDuplicates : ByteArray := prog_8_method_17_code
def yX6_removeDuplicates : MethodName := ⟨RX6, "removeDuplicates", "()I"⟩
abbrev cX6_isSamePoint : ByteArray := prog_8_method_18_code
def yX6_isSamePoint : MethodName := ⟨RX6, "isSamePoint", "(II)Z"⟩
abbrev cX6_isOfPen : ByteArray := prog_8_method_19_code
def yX6_isOfPen : MethodName := ⟨RX6, "isOfPen", "(II)Z"⟩
abbrev cX6_degree : ByteArray := prog_8_method_20_code
def yX6_degree : MethodName := ⟨RX6, "degree", "(II)I"⟩
abbrev cX6_joins : ByteArray := prog_8_method_21_code
def yX6_joins : MethodName := ⟨RX6, "joins", "(I)V"⟩
abbrev cX6_leastRuns : ByteArray := prog_8_method_22_code
def yX6_leastRuns : MethodName := ⟨RX6, "leastRuns", "(I)I"⟩
abbrev cX6_isPosition : ByteArray := prog_8_method_23_code
def yX6_isPosition : MethodName := ⟨RX6, "isPosition", "(I)Z"⟩
abbrev cX6_at : ByteArray := prog_8_method_24_code
def yX6_at : MethodName := ⟨RX6, "at", "(I)I"⟩
abbrev cX6_strokeAt : ByteArray := prog_8_method_25_code
def yX6_strokeAt : MethodName := ⟨RX6, "strokeAt", "(I)I"⟩
abbrev cX6_directionAt : ByteArray := prog_8_method_26_code
def yX6_directionAt : MethodName := ⟨RX6, "directionAt", "(I)I"⟩
abbrev cX6_movePosition : ByteArray := prog_8_method_27_code
def yX6_movePosition : MethodName := ⟨RX6, "movePosition", "(II)I"⟩
abbrev cX6_turnPosition : ByteArray := prog_8_method_28_code
def yX6_turnPosition : MethodName := ⟨RX6, "turnPosition", "(I)I"⟩
abbrev cX6_begin : ByteArray := prog_8_method_29_code
def yX6_begin : MethodName := ⟨RX6, "begin", "(I)I"⟩
abbrev cX6_end : ByteArray := prog_8_method_30_code
def yX6_end : MethodName := ⟨RX6, "end", "(I)I"⟩
abbrev cX6_far : ByteArray := prog_8_method_31_code
def yX6_far : MethodName := ⟨RX6, "far", "(II)I"⟩
abbrev cX6_step : ByteArray := prog_8_method_32_code
def yX6_step : MethodName := ⟨RX6, "step", "(II)I"⟩
abbrev cX6_cost : ByteArray := prog_8_method_33_code
def yX6_cost : MethodName := ⟨RX6, "cost", "()I"⟩
abbrev cX6_penChanges : ByteArray := prog_8_method_34_code
def yX6_penChanges : MethodName := ⟨RX6, "penChanges", "()I"⟩
abbrev cX6_isLinked : ByteArray := prog_8_method_35_code
def yX6_isLinked : MethodName := ⟨RX6, "isLinked", "(I)Z"⟩
abbrev cX6_runCount : ByteArray := prog_8_method_36_code
def yX6_runCount : MethodName := ⟨RX6, "runCount", "()I"⟩
abbrev cX6_runLength : ByteArray := prog_8_method_37_code
def yX6_runLength : MethodName := ⟨RX6, "runLength", "(I)I"⟩
abbrev cX6_setPenCost : ByteArray := prog_8_method_38_code
def yX6_setPenCost : MethodName := ⟨RX6, "setPenCost", "(I)I"⟩
abbrev cX6_ahead : ByteArray := prog_8_method_39_code
def yX6_ahead : MethodName := ⟨RX6, "ahead", "(II)I"⟩
abbrev cX6_finds : ByteArray := prog_8_method_40_code
def yX6_finds : MethodName := ⟨RX6, "finds", "()I"⟩
abbrev cX6_bestCost : ByteArray := prog_8_method_41_code
def yX6_bestCost : MethodName := ⟨RX6, "bestCost", "()I"⟩
abbrev cX6_bestAt : ByteArray := prog_8_method_42_code
def yX6_bestAt : MethodName := ⟨RX6, "bestAt", "(I)I"⟩
abbrev cX6_adoptBest : ByteArray := prog_8_method_43_code
def yX6_adoptBest : MethodName := ⟨RX6, "adoptBest", "()I"⟩
abbrev cX6_adoptNearest : ByteArray := prog_8_method_44_code
def yX6_adoptNearest : MethodName := ⟨RX6, "adoptNearest", "()I"⟩
abbrev cX6_setSquareLimit : ByteArray := prog_8_method_45_code
def yX6_setSquareLimit : MethodName := ⟨RX6, "setSquareLimit", "(I)I"⟩
abbrev cX6_setAcceleration : ByteArray := prog_8_method_46_code
def yX6_setAcceleration : MethodName := ⟨RX6, "setAcceleration", "(I)I"⟩
abbrev cX6_dx : ByteArray := prog_8_method_47_code
def yX6_dx : MethodName := ⟨RX6, "dx", "(I)I"⟩
abbrev cX6_dy : ByteArray := prog_8_method_48_code
def yX6_dy : MethodName := ⟨RX6, "dy", "(I)I"⟩
abbrev cX6_corner : ByteArray := prog_8_method_49_code
def yX6_corner : MethodName := ⟨RX6, "corner", "(I)I"⟩
abbrev cX6_cornerLimit : ByteArray := prog_8_method_50_code
def yX6_cornerLimit : MethodName := ⟨RX6, "cornerLimit", "(I)I"⟩
abbrev cX6_gain : ByteArray := prog_8_method_51_code
def yX6_gain : MethodName := ⟨RX6, "gain", "(I)I"⟩
abbrev cX6_before : ByteArray := prog_8_method_52_code
def yX6_before : MethodName := ⟨RX6, "before", "(I)I"⟩
abbrev cX6_speeds : ByteArray := prog_8_method_53_code
def yX6_speeds : MethodName := ⟨RX6, "speeds", "()V"⟩
abbrev cX6_endSquare : ByteArray := prog_8_method_54_code
def yX6_endSquare : MethodName := ⟨RX6, "endSquare", "(I)I"⟩
abbrev cX6_peakSquare : ByteArray := prog_8_method_55_code
def yX6_peakSquare : MethodName := ⟨RX6, "peakSquare", "(I)I"⟩
def RJ9 : String := "java/lang/Math"
def TJ9 : u_T := fun k => match k with
  | _ => ("", "", "", false)
def tyJ9 : Nat → FieldType := fun k => match k with
  | _ => .int
abbrev wsJ90 : List Cond := u_ws RJ9 TJ9 0
theorem nmJ9 : ∀ a, a < 0 → ∀ b, b < 0 → a ≠ b → (TJ9 a).2.1 ≠ (TJ9 b).2.1 := by decide +kernel
theorem tyJ9_ok : ∀ k, k < 0 → parseFieldDescriptor (TJ9 k).2.2.1 = some (tyJ9 k) := by decide +kernel
abbrev cJ9_abs_0f7a4 : ByteArray := prog_9_method_59_code
def yJ9_abs_0f7a4 : MethodName := ⟨RJ9, "abs", "(I)I"⟩
abbrev cJ9_max_7cf53 : ByteArray := prog_9_method_65_code
def yJ9_max_7cf53 : MethodName := ⟨RJ9, "max", "(II)I"⟩
abbrev cJ9_min_7cf53 : ByteArray := prog_9_method_69_code
def yJ9_min_7cf53 : MethodName := ⟨RJ9, "min", "(II)I"⟩
def RJ10 : String := "java/lang/System"
def TJ10 : u_T := fun k => match k with
  | _ => ("", "", "", false)
def tyJ10 : Nat → FieldType := fun k => match k with
  | _ => .int
abbrev wsJ100 : List Cond := u_ws RJ10 TJ10 0
theorem nmJ10 : ∀ a, a < 0 → ∀ b, b < 0 → a ≠ b → (TJ10 a).2.1 ≠ (TJ10 b).2.1 := by decide +kernel
theorem tyJ10_ok : ∀ k, k < 0 → parseFieldDescriptor (TJ10 k).2.2.1 = some (tyJ10 k) := by decide +kernel
def RL : String := "PlotterPlannerLaw"
abbrev cL_law : ByteArray := code
def yL_law : MethodName := ⟨RL, "law", "([I)Z"⟩
def wsJ9_abs_0f7a4 : List Cond := .code yJ9_abs_0f7a4 cJ9_abs_0f7a4 1 (some .int) :: ([])
def wsJ9_max_7cf53 : List Cond := .code yJ9_max_7cf53 cJ9_max_7cf53 2 (some .int) :: ([])
def wsJ9_min_7cf53 : List Cond := .code yJ9_min_7cf53 cJ9_min_7cf53 2 (some .int) :: ([])
theorem inJ9 : ∀ w ∈ wsJ90, w ∈ lw_tbl := by decide +kernel
theorem inJ10 : ∀ w ∈ wsJ100, w ∈ lw_tbl := by decide +kernel
theorem dJ9_abs_0f7a4_0 : decode cJ9_abs_0f7a4 0 = .ok (.iload_n 0, 1) := by decide +kernel
theorem dJ9_abs_0f7a4_1 : decode cJ9_abs_0f7a4 1 = .ok (.ifCond .ge 8, 3) := by decide +kernel
theorem dJ9_abs_0f7a4_4 : decode cJ9_abs_0f7a4 4 = .ok (.iload_n 0, 1) := by decide +kernel
theorem dJ9_abs_0f7a4_5 : decode cJ9_abs_0f7a4 5 = .ok (.ineg, 1) := by decide +kernel
theorem dJ9_abs_0f7a4_6 : decode cJ9_abs_0f7a4 6 = .ok (.goto 4, 3) := by decide +kernel
theorem dJ9_abs_0f7a4_9 : decode cJ9_abs_0f7a4 9 = .ok (.iload_n 0, 1) := by decide +kernel
theorem dJ9_abs_0f7a4_10 : decode cJ9_abs_0f7a4 10 = .ok (.ireturn, 1) := by decide +kernel
theorem dJ9_max_7cf53_0 : decode cJ9_max_7cf53 0 = .ok (.iload_n 0, 1) := by decide +kernel
theorem dJ9_max_7cf53_1 : decode cJ9_max_7cf53 1 = .ok (.iload_n 1, 1) := by decide +kernel
theorem dJ9_max_7cf53_2 : decode cJ9_max_7cf53 2 = .ok (.if_icmp .lt 7, 3) := by decide +kernel
theorem dJ9_max_7cf53_5 : decode cJ9_max_7cf53 5 = .ok (.iload_n 0, 1) := by decide +kernel
theorem dJ9_max_7cf53_6 : decode cJ9_max_7cf53 6 = .ok (.goto 4, 3) := by decide +kernel
theorem dJ9_max_7cf53_9 : decode cJ9_max_7cf53 9 = .ok (.iload_n 1, 1) := by decide +kernel
theorem dJ9_max_7cf53_10 : decode cJ9_max_7cf53 10 = .ok (.ireturn, 1) := by decide +kernel
theorem dJ9_min_7cf53_0 : decode cJ9_min_7cf53 0 = .ok (.iload_n 0, 1) := by decide +kernel
theorem dJ9_min_7cf53_1 : decode cJ9_min_7cf53 1 = .ok (.iload_n 1, 1) := by decide +kernel
theorem dJ9_min_7cf53_2 : decode cJ9_min_7cf53 2 = .ok (.if_icmp .gt 7, 3) := by decide +kernel
theorem dJ9_min_7cf53_5 : decode cJ9_min_7cf53 5 = .ok (.iload_n 0, 1) := by decide +kernel
theorem dJ9_min_7cf53_6 : decode cJ9_min_7cf53 6 = .ok (.goto 4, 3) := by decide +kernel
theorem dJ9_min_7cf53_9 : decode cJ9_min_7cf53 9 = .ok (.iload_n 1, 1) := by decide +kernel
theorem dJ9_min_7cf53_10 : decode cJ9_min_7cf53 10 = .ok (.ireturn, 1) := by decide +kernel
abbrev vwCl : List vw_C := [(RX0, TX0, 6), (RX1, TX1, 5), (RX2, TX2, 3), (RX3, TX3, 1), (RX4, TX4, 1), (RX5, TX5, 8), (RX6, TX6, 10)]

/-- the words of the tables that every method may use -/
def wU : List Cond := lw_tbl.filter goodWord
theorem wU_tbl : ∀ w ∈ wU, w ∈ lw_tbl := fun w h => (List.mem_filter.mp h).1
theorem wU_good : ∀ w ∈ wU, goodWord w = true := fun w h => (List.mem_filter.mp h).2
theorem wU_of {w : Cond} {i : Nat} (h : lw_tbl[i]? = some w) (hg : goodWord w = true) : w ∈ wU := List.mem_filter.mpr ⟨List.mem_of_getElem? h, hg⟩
theorem wU_ofs (ws : List Cond) (ps : List Nat) (hp : ws = ps.filterMap (fun i => lw_tbl[i]?)) (h : ws.all goodWord = true) : ∀ w ∈ ws, w ∈ wU := by
  intro w hw
  have h1 := List.all_eq_true.mp h w hw
  rw [hp] at hw
  obtain ⟨i, -, hi⟩ := List.mem_filterMap.mp hw
  exact wU_of hi h1
theorem wU_ofd (ws : List Cond) (hp : ∀ w ∈ ws, w ∈ lw_tbl) (h : ws.all goodWord = true) : ∀ w ∈ ws, w ∈ wU := fun w hw => List.mem_filter.mpr ⟨hp w hw, List.all_eq_true.mp h w hw⟩
theorem zU {c1 c2 : Cond} (h : c2 ∈ wU) : GoodIn (c1 :: wU) (c2 :: wU) := by
  intro w hw
  have hm : w ∈ wU := by
    rcases List.mem_cons.mp hw with e | e
    · rw [e]; exact h
    · exact e
  exact ⟨List.mem_cons_of_mem _ hm, good_of_word (wU_good w hm)⟩
theorem zU0 {c2 : Cond} (h : c2 ∈ wU) : GoodIn wU (c2 :: wU) := by
  intro w hw
  have hm : w ∈ wU := by
    rcases List.mem_cons.mp hw with e | e
    · rw [e]; exact h
    · exact e
  exact ⟨hm, good_of_word (wU_good w hm)⟩
theorem zUV {c1 c2 : Cond} {own C : String} {idx : Nat} {y : MethodName} (h : c2 ∈ wU) (h1 : Cond.methodLink own idx y ∈ wU) (h2 : Cond.instanceMethod y ∈ wU) (h3 : Cond.selects C y y ∈ wU) (h4 : Cond.initialized C ∈ wU) : GoodIn (c1 :: wU) (wsV own idx C y (c2 :: wU)) := by
  intro w hw
  unfold wsV at hw
  rcases List.mem_append.mp hw with q | q
  · have hm : w ∈ wU := by
      simp only [List.mem_cons, List.not_mem_nil, or_false] at q
      rcases q with e | e | e | e <;> rw [e] <;> assumption
    exact ⟨List.mem_cons_of_mem _ hm, good_of_word (wU_good w hm)⟩
  · exact zU h w q
theorem zUS {c1 c2 : Cond} {own : String} {idx : Nat} {y : MethodName} (h : c2 ∈ wU) (h1 : Cond.methodLink own idx y ∈ wU) (h2 : Cond.static y ∈ wU) (h4 : Cond.initialized y.cls ∈ wU) : GoodIn (c1 :: wU) (va_wsS own idx y (c2 :: wU)) := by
  intro w hw
  unfold va_wsS at hw
  rcases List.mem_append.mp hw with q | q
  · have hm : w ∈ wU := by
      simp only [List.mem_cons, List.not_mem_nil, or_false] at q
      rcases q with e | e | e <;> rw [e] <;> assumption
    exact ⟨List.mem_cons_of_mem _ hm, good_of_word (wU_good w hm)⟩
  · exact zU h w q
theorem wd_0 : Cond.classLink RL 7 RX5 ∈ wU := wU_of (i := 58) (by decide +kernel) (by decide +kernel)
theorem wd_1 : Cond.instantiable RX5 8 ∈ wU := wU_of (i := 59) (by decide +kernel) (by decide +kernel)
theorem wd_2 : Cond.initialized RX5 ∈ wU := wU_of (i := 49) (by decide +kernel) (by decide +kernel)
theorem wd_3 : Cond.classLink RL 10 RX6 ∈ wU := wU_of (i := 595) (by decide +kernel) (by decide +kernel)
theorem wd_4 : Cond.instantiable RX6 10 ∈ wU := wU_of (i := 596) (by decide +kernel) (by decide +kernel)
theorem wd_5 : Cond.initialized RX6 ∈ wU := wU_of (i := 55) (by decide +kernel) (by decide +kernel)
theorem wd_6 : Cond.methodLink RL 9 yX5_init ∈ wU := wU_of (i := 60) (by decide +kernel) (by decide +kernel)
theorem wd_7 : Cond.instanceMethod yX5_init ∈ wU := wU_of (i := 61) (by decide +kernel) (by decide +kernel)
set_option maxRecDepth 20000 in
theorem wd_8 : Cond.code yX5_init cX5_init 1 none ∈ wU := wU_of (i := 62) rfl rfl
theorem wd_9 : Cond.methodLink RX5 3 objectInit ∈ wU := wU_of (i := 63) (by decide +kernel) (by decide +kernel)
theorem wd_10 : Cond.instanceMethod objectInit ∈ wU := wU_of (i := 64) (by decide +kernel) (by decide +kernel)
set_option maxRecDepth 20000 in
theorem wd_11 : Cond.code objectInit ⟨#[0xb1]⟩ 1 none ∈ wU := wU_of (i := 65) rfl rfl
theorem wd_12 : Cond.classLink RX5 9 RX1 ∈ wU := wU_of (i := 66) (by decide +kernel) (by decide +kernel)
theorem wd_13 : Cond.instantiable RX1 5 ∈ wU := wU_of (i := 67) (by decide +kernel) (by decide +kernel)
theorem wd_14 : Cond.initialized RX1 ∈ wU := wU_of (i := 50) (by decide +kernel) (by decide +kernel)
theorem wd_15 : Cond.fieldLink RX5 12 "PlotterPlanner" "drawing" "LPlotterPlanner$Drawing;" ∈ wU := wU_of (i := 153) (by decide +kernel) (by decide +kernel)
theorem wd_16 : Cond.classLink RX5 16 RX2 ∈ wU := wU_of (i := 89) (by decide +kernel) (by decide +kernel)
theorem wd_17 : Cond.instantiable RX2 3 ∈ wU := wU_of (i := 90) (by decide +kernel) (by decide +kernel)
theorem wd_18 : Cond.initialized RX2 ∈ wU := wU_of (i := 51) (by decide +kernel) (by decide +kernel)
theorem wd_19 : Cond.fieldLink RX5 19 "PlotterPlanner" "history" "LPlotterPlanner$History;" ∈ wU := wU_of (i := 154) (by decide +kernel) (by decide +kernel)
theorem wd_20 : Cond.classLink RX5 23 RX0 ∈ wU := wU_of (i := 108) (by decide +kernel) (by decide +kernel)
theorem wd_21 : Cond.instantiable RX0 6 ∈ wU := wU_of (i := 109) (by decide +kernel) (by decide +kernel)
theorem wd_22 : Cond.initialized RX0 ∈ wU := wU_of (i := 52) (by decide +kernel) (by decide +kernel)
theorem wd_23 : Cond.fieldLink RX5 26 "PlotterPlanner" "best" "LPlotterPlanner$BestPlan;" ∈ wU := wU_of (i := 155) (by decide +kernel) (by decide +kernel)
theorem wd_24 : Cond.classLink RX5 30 RX3 ∈ wU := wU_of (i := 133) (by decide +kernel) (by decide +kernel)
theorem wd_25 : Cond.instantiable RX3 1 ∈ wU := wU_of (i := 134) (by decide +kernel) (by decide +kernel)
theorem wd_26 : Cond.initialized RX3 ∈ wU := wU_of (i := 53) (by decide +kernel) (by decide +kernel)
theorem wd_27 : Cond.fieldLink RX5 33 "PlotterPlanner" "graph" "LPlotterPlanner$RunGraph;" ∈ wU := wU_of (i := 156) (by decide +kernel) (by decide +kernel)
theorem wd_28 : Cond.classLink RX5 37 RX4 ∈ wU := wU_of (i := 143) (by decide +kernel) (by decide +kernel)
theorem wd_29 : Cond.instantiable RX4 1 ∈ wU := wU_of (i := 144) (by decide +kernel) (by decide +kernel)
theorem wd_30 : Cond.initialized RX4 ∈ wU := wU_of (i := 54) (by decide +kernel) (by decide +kernel)
theorem wd_31 : Cond.fieldLink RX5 40 "PlotterPlanner" "speeds" "LPlotterPlanner$Speeds;" ∈ wU := wU_of (i := 157) (by decide +kernel) (by decide +kernel)
theorem wd_32 : Cond.fieldLink RX5 44 "PlotterPlanner" "penCost" "I" ∈ wU := wU_of (i := 158) (by decide +kernel) (by decide +kernel)
theorem wd_33 : Cond.fieldLink RX5 48 "PlotterPlanner" "squareLimit" "I" ∈ wU := wU_of (i := 159) (by decide +kernel) (by decide +kernel)
theorem wd_34 : Cond.fieldLink RX5 51 "PlotterPlanner" "acceleration" "I" ∈ wU := wU_of (i := 160) (by decide +kernel) (by decide +kernel)
theorem wd_35 : Cond.instanceMethod yX1_init ∈ wU := wU_of (i := 69) (by decide +kernel) (by decide +kernel)
set_option maxRecDepth 20000 in
theorem wd_36 : Cond.code yX1_init cX1_init 1 none ∈ wU := wU_of (i := 70) rfl rfl
theorem wd_37 : Cond.methodLink RX1 3 objectInit ∈ wU := wU_of (i := 71) (by decide +kernel) (by decide +kernel)
theorem wd_38 : Cond.arrayClass .int ∈ wU := wU_of (i := 88) (by decide +kernel) (by decide +kernel)
theorem wd_39 : Cond.fieldLink RX1 9 "PlotterPlanner$Drawing" "pens" "[I" ∈ wU := wU_of (i := 73) (by decide +kernel) (by decide +kernel)
theorem wd_40 : Cond.fieldLink RX1 15 "PlotterPlanner$Drawing" "beginX" "[I" ∈ wU := wU_of (i := 74) (by decide +kernel) (by decide +kernel)
theorem wd_41 : Cond.fieldLink RX1 18 "PlotterPlanner$Drawing" "beginY" "[I" ∈ wU := wU_of (i := 75) (by decide +kernel) (by decide +kernel)
theorem wd_42 : Cond.fieldLink RX1 21 "PlotterPlanner$Drawing" "plan" "[I" ∈ wU := wU_of (i := 76) (by decide +kernel) (by decide +kernel)
theorem wd_43 : Cond.methodLink RX5 18 yX2_init ∈ wU := wU_of (i := 91) (by decide +kernel) (by decide +kernel)
theorem wd_44 : Cond.instanceMethod yX2_init ∈ wU := wU_of (i := 92) (by decide +kernel) (by decide +kernel)
set_option maxRecDepth 20000 in
theorem wd_45 : Cond.code yX2_init cX2_init 2 none ∈ wU := wU_of (i := 93) rfl rfl
theorem wd_46 : Cond.methodLink RX2 3 objectInit ∈ wU := wU_of (i := 94) (by decide +kernel) (by decide +kernel)
theorem wd_47 : Cond.classLink RX2 9 RX1 ∈ wU := wU_of (i := 95) (by decide +kernel) (by decide +kernel)
theorem wd_48 : Cond.fieldLink RX2 11 "PlotterPlanner$History" "ring" "[LPlotterPlanner$Drawing;" ∈ wU := wU_of (i := 98) (by decide +kernel) (by decide +kernel)
theorem wd_49 : Cond.instanceMethod yX0_init ∈ wU := wU_of (i := 111) (by decide +kernel) (by decide +kernel)
set_option maxRecDepth 20000 in
theorem wd_50 : Cond.code yX0_init cX0_init 1 none ∈ wU := wU_of (i := 112) rfl rfl
theorem wd_51 : Cond.methodLink RX0 3 objectInit ∈ wU := wU_of (i := 113) (by decide +kernel) (by decide +kernel)
theorem wd_52 : Cond.fieldLink RX0 9 "PlotterPlanner$BestPlan" "steps" "[I" ∈ wU := wU_of (i := 114) (by decide +kernel) (by decide +kernel)
theorem wd_53 : Cond.fieldLink RX0 15 "PlotterPlanner$BestPlan" "rests" "[I" ∈ wU := wU_of (i := 115) (by decide +kernel) (by decide +kernel)
theorem wd_54 : Cond.fieldLink RX0 18 "PlotterPlanner$BestPlan" "codes" "[I" ∈ wU := wU_of (i := 116) (by decide +kernel) (by decide +kernel)
theorem wd_55 : Cond.instanceMethod yX3_init ∈ wU := wU_of (i := 136) (by decide +kernel) (by decide +kernel)
set_option maxRecDepth 20000 in
theorem wd_56 : Cond.code yX3_init cX3_init 1 none ∈ wU := wU_of (i := 137) rfl rfl
theorem wd_57 : Cond.methodLink RX3 3 objectInit ∈ wU := wU_of (i := 138) (by decide +kernel) (by decide +kernel)
theorem wd_58 : Cond.fieldLink RX3 9 "PlotterPlanner$RunGraph" "components" "[I" ∈ wU := wU_of (i := 139) (by decide +kernel) (by decide +kernel)
theorem wd_59 : Cond.instanceMethod yX4_init ∈ wU := wU_of (i := 146) (by decide +kernel) (by decide +kernel)
set_option maxRecDepth 20000 in
theorem wd_60 : Cond.code yX4_init cX4_init 1 none ∈ wU := wU_of (i := 147) rfl rfl
theorem wd_61 : Cond.methodLink RX4 3 objectInit ∈ wU := wU_of (i := 148) (by decide +kernel) (by decide +kernel)
theorem wd_62 : Cond.fieldLink RX4 9 "PlotterPlanner$Speeds" "ends" "[I" ∈ wU := wU_of (i := 149) (by decide +kernel) (by decide +kernel)
theorem wd_63 : Cond.methodLink RL 12 yX6_init ∈ wU := wU_of (i := 597) (by decide +kernel) (by decide +kernel)
theorem wd_64 : Cond.instanceMethod yX6_init ∈ wU := wU_of (i := 598) (by decide +kernel) (by decide +kernel)
set_option maxRecDepth 20000 in
theorem wd_65 : Cond.code yX6_init cX6_init 1 none ∈ wU := wU_of (i := 599) rfl rfl
theorem wd_66 : Cond.methodLink RX6 1 objectInit ∈ wU := wU_of (i := 600) (by decide +kernel) (by decide +kernel)
theorem wd_67 : Cond.fieldLink RX6 7 "PlotterPlannerModel" "now" "[I" ∈ wU := wU_of (i := 601) (by decide +kernel) (by decide +kernel)
theorem wd_68 : Cond.fieldLink RX6 13 "PlotterPlannerModel" "history" "[I" ∈ wU := wU_of (i := 602) (by decide +kernel) (by decide +kernel)
theorem wd_69 : Cond.fieldLink RX6 16 "PlotterPlannerModel" "penCost" "I" ∈ wU := wU_of (i := 604) (by decide +kernel) (by decide +kernel)
theorem wd_70 : Cond.fieldLink RX6 20 "PlotterPlannerModel" "limit" "I" ∈ wU := wU_of (i := 605) (by decide +kernel) (by decide +kernel)
theorem wd_71 : Cond.fieldLink RX6 23 "PlotterPlannerModel" "acceleration" "I" ∈ wU := wU_of (i := 606) (by decide +kernel) (by decide +kernel)
theorem wd_72 : Cond.fieldLink RX6 26 "PlotterPlannerModel" "rest" "[I" ∈ wU := wU_of (i := 607) (by decide +kernel) (by decide +kernel)
theorem wd_73 : Cond.fieldLink RX6 29 "PlotterPlannerModel" "best" "[I" ∈ wU := wU_of (i := 608) (by decide +kernel) (by decide +kernel)
theorem wd_74 : Cond.fieldLink RX6 32 "PlotterPlannerModel" "net" "[I" ∈ wU := wU_of (i := 609) (by decide +kernel) (by decide +kernel)
theorem wd_75 : Cond.fieldLink RX6 35 "PlotterPlannerModel" "ends" "[I" ∈ wU := wU_of (i := 610) (by decide +kernel) (by decide +kernel)
theorem wd_76 : Cond.methodLink RL 13 yX5_addStroke ∈ wU := wU_of (i := 178) (by decide +kernel) (by decide +kernel)
theorem wd_77 : Cond.instanceMethod yX5_addStroke ∈ wU := wU_of (i := 179) (by decide +kernel) (by decide +kernel)
theorem wd_78 : Cond.selects RX5 yX5_addStroke yX5_addStroke ∈ wU := wU_of (i := 180) (by decide +kernel) (by decide +kernel)
set_option maxRecDepth 20000 in
theorem wd_79 : Cond.code yX5_addStroke cX5_addStroke 6 (some .int) ∈ wU := wU_of (i := 181) rfl rfl
theorem wd_80 : Cond.methodLink RX5 54 yX5_isPoint ∈ wU := wU_of (i := 182) (by decide +kernel) (by decide +kernel)
theorem wd_81 : Cond.static yX5_isPoint ∈ wU := wU_of (i := 183) (by decide +kernel) (by decide +kernel)
set_option maxRecDepth 20000 in
theorem wd_82 : Cond.code yX5_isPoint cX5_isPoint 2 (some .boolean) ∈ wU := wU_of (i := 184) rfl rfl
theorem wd_83 : Cond.methodLink RX5 125 yX5_isWithin ∈ wU := wU_of (i := 185) (by decide +kernel) (by decide +kernel)
theorem wd_84 : Cond.static yX5_isWithin ∈ wU := wU_of (i := 186) (by decide +kernel) (by decide +kernel)
set_option maxRecDepth 20000 in
theorem wd_85 : Cond.code yX5_isWithin cX5_isWithin 3 (some .boolean) ∈ wU := wU_of (i := 187) rfl rfl
theorem wd_86 : Cond.methodLink RX5 58 yX5_isPen ∈ wU := wU_of (i := 188) (by decide +kernel) (by decide +kernel)
theorem wd_87 : Cond.static yX5_isPen ∈ wU := wU_of (i := 189) (by decide +kernel) (by decide +kernel)
set_option maxRecDepth 20000 in
theorem wd_88 : Cond.code yX5_isPen cX5_isPen 1 (some .boolean) ∈ wU := wU_of (i := 190) rfl rfl
theorem wd_89 : Cond.methodLink RX5 62 yX1_size ∈ wU := wU_of (i := 191) (by decide +kernel) (by decide +kernel)
theorem wd_90 : Cond.instanceMethod yX1_size ∈ wU := wU_of (i := 192) (by decide +kernel) (by decide +kernel)
theorem wd_91 : Cond.selects RX1 yX1_size yX1_size ∈ wU := wU_of (i := 193) (by decide +kernel) (by decide +kernel)
set_option maxRecDepth 20000 in
theorem wd_92 : Cond.code yX1_size cX1_size 1 (some .int) ∈ wU := wU_of (i := 194) rfl rfl
theorem wd_93 : Cond.fieldLink RX1 24 "PlotterPlanner$Drawing" "size" "I" ∈ wU := wU_of (i := 72) (by decide +kernel) (by decide +kernel)
theorem wd_94 : Cond.methodLink RX5 66 yX5_beginEdit ∈ wU := wU_of (i := 195) (by decide +kernel) (by decide +kernel)
theorem wd_95 : Cond.instanceMethod yX5_beginEdit ∈ wU := wU_of (i := 197) (by decide +kernel) (by decide +kernel)
theorem wd_96 : Cond.selects RX5 yX5_beginEdit yX5_beginEdit ∈ wU := wU_of (i := 0) (by decide +kernel) (by decide +kernel)
set_option maxRecDepth 20000 in
theorem wd_97 : Cond.code yX5_beginEdit cX5_beginEdit 1 none ∈ wU := wU_of (i := 198) rfl rfl
theorem wd_98 : Cond.methodLink RX5 182 yX2_keep ∈ wU := wU_of (i := 199) (by decide +kernel) (by decide +kernel)
theorem wd_99 : Cond.instanceMethod yX2_keep ∈ wU := wU_of (i := 200) (by decide +kernel) (by decide +kernel)
theorem wd_100 : Cond.selects RX2 yX2_keep yX2_keep ∈ wU := wU_of (i := 201) (by decide +kernel) (by decide +kernel)
set_option maxRecDepth 20000 in
theorem wd_101 : Cond.code yX2_keep cX2_keep 3 none ∈ wU := wU_of (i := 202) rfl rfl
theorem wd_102 : Cond.fieldLink RX2 22 "PlotterPlanner$History" "next" "I" ∈ wU := wU_of (i := 99) (by decide +kernel) (by decide +kernel)
theorem wd_103 : Cond.fieldLink RX2 18 "PlotterPlanner$History" "depth" "I" ∈ wU := wU_of (i := 100) (by decide +kernel) (by decide +kernel)
theorem wd_104 : Cond.methodLink RX2 33 Lib.Math.min.name ∈ wU := wU_of (i := 214) (by decide +kernel) (by decide +kernel)
theorem wd_105 : Cond.static Lib.Math.min.name ∈ wU := wU_of (i := 215) (by decide +kernel) (by decide +kernel)
theorem wd_106 : Cond.initialized "java/lang/Math" ∈ wU := wU_of (i := 57) (by decide +kernel) (by decide +kernel)
set_option maxRecDepth 20000 in
theorem wd_107 : Cond.code Lib.Math.min.name Lib.Math.min.code 2 (some .int) ∈ wU := wU_of (i := 216) rfl rfl
theorem wd_108 : Cond.methodLink RX2 25 yX2_slotAt ∈ wU := wU_of (i := 203) (by decide +kernel) (by decide +kernel)
theorem wd_109 : Cond.instanceMethod yX2_slotAt ∈ wU := wU_of (i := 205) (by decide +kernel) (by decide +kernel)
theorem wd_110 : Cond.selects RX2 yX2_slotAt yX2_slotAt ∈ wU := wU_of (i := 1) (by decide +kernel) (by decide +kernel)
set_option maxRecDepth 20000 in
theorem wd_111 : Cond.code yX2_slotAt cX2_slotAt 2 (some (.object "PlotterPlanner$Drawing")) ∈ wU := wU_of (i := 206) rfl rfl
theorem wd_112 : Cond.methodLink RX2 29 yX1_copyFrom ∈ wU := wU_of (i := 207) (by decide +kernel) (by decide +kernel)
theorem wd_113 : Cond.instanceMethod yX1_copyFrom ∈ wU := wU_of (i := 208) (by decide +kernel) (by decide +kernel)
theorem wd_114 : Cond.selects RX1 yX1_copyFrom yX1_copyFrom ∈ wU := wU_of (i := 209) (by decide +kernel) (by decide +kernel)
set_option maxRecDepth 20000 in
theorem wd_115 : Cond.code yX1_copyFrom cX1_copyFrom 2 none ∈ wU := wU_of (i := 210) rfl rfl
theorem wd_116 : Cond.methodLink RX1 38 arraycopyName ∈ wU := wU_of (i := 211) (by decide +kernel) (by decide +kernel)
theorem wd_117 : Cond.native arraycopyName ∈ wU := wU_of (i := 213) (by decide +kernel) (by decide +kernel)
theorem wd_118 : Cond.static arraycopyName ∈ wU := wU_of (i := 212) (by decide +kernel) (by decide +kernel)
theorem wd_119 : Cond.initialized "java/lang/System" ∈ wU := wU_of (i := 56) (by decide +kernel) (by decide +kernel)
theorem wd_120 : Cond.methodLink RX5 129 yX0_forget ∈ wU := wU_of (i := 217) (by decide +kernel) (by decide +kernel)
theorem wd_121 : Cond.instanceMethod yX0_forget ∈ wU := wU_of (i := 218) (by decide +kernel) (by decide +kernel)
theorem wd_122 : Cond.selects RX0 yX0_forget yX0_forget ∈ wU := wU_of (i := 219) (by decide +kernel) (by decide +kernel)
set_option maxRecDepth 20000 in
theorem wd_123 : Cond.code yX0_forget cX0_forget 1 none ∈ wU := wU_of (i := 220) rfl rfl
theorem wd_124 : Cond.fieldLink RX0 21 "PlotterPlanner$BestPlan" "known" "Z" ∈ wU := wU_of (i := 119) (by decide +kernel) (by decide +kernel)
theorem wd_125 : Cond.methodLink RX5 69 yX1_append ∈ wU := wU_of (i := 221) (by decide +kernel) (by decide +kernel)
theorem wd_126 : Cond.instanceMethod yX1_append ∈ wU := wU_of (i := 222) (by decide +kernel) (by decide +kernel)
theorem wd_127 : Cond.selects RX1 yX1_append yX1_append ∈ wU := wU_of (i := 223) (by decide +kernel) (by decide +kernel)
set_option maxRecDepth 20000 in
theorem wd_128 : Cond.code yX1_append cX1_append 7 (some .int) ∈ wU := wU_of (i := 224) rfl rfl
theorem wd_129 : Cond.methodLink RL 17 yX6_addStroke ∈ wU := wU_of (i := 636) (by decide +kernel) (by decide +kernel)
theorem wd_130 : Cond.instanceMethod yX6_addStroke ∈ wU := wU_of (i := 637) (by decide +kernel) (by decide +kernel)
theorem wd_131 : Cond.selects RX6 yX6_addStroke yX6_addStroke ∈ wU := wU_of (i := 638) (by decide +kernel) (by decide +kernel)
set_option maxRecDepth 20000 in
theorem wd_132 : Cond.code yX6_addStroke cX6_addStroke 8 (some .int) ∈ wU := wU_of (i := 639) rfl rfl
theorem wd_133 : Cond.methodLink RX6 38 yX6_in ∈ wU := wU_of (i := 640) (by decide +kernel) (by decide +kernel)
theorem wd_134 : Cond.static yX6_in ∈ wU := wU_of (i := 641) (by decide +kernel) (by decide +kernel)
set_option maxRecDepth 20000 in
theorem wd_135 : Cond.code yX6_in cX6_in 3 (some .boolean) ∈ wU := wU_of (i := 642) rfl rfl
theorem wd_136 : Cond.methodLink RX6 45 yX6_edit ∈ wU := wU_of (i := 643) (by decide +kernel) (by decide +kernel)
theorem wd_137 : Cond.instanceMethod yX6_edit ∈ wU := wU_of (i := 645) (by decide +kernel) (by decide +kernel)
theorem wd_138 : Cond.selects RX6 yX6_edit yX6_edit ∈ wU := wU_of (i := 26) (by decide +kernel) (by decide +kernel)
set_option maxRecDepth 20000 in
theorem wd_139 : Cond.code yX6_edit cX6_edit 2 none ∈ wU := wU_of (i := 646) rfl rfl
theorem wd_140 : Cond.fieldLink RX6 42 "PlotterPlannerModel" "edits" "I" ∈ wU := wU_of (i := 603) (by decide +kernel) (by decide +kernel)
theorem wd_141 : Cond.methodLink RL 18 yX5_removeStroke ∈ wU := wU_of (i := 225) (by decide +kernel) (by decide +kernel)
theorem wd_142 : Cond.instanceMethod yX5_removeStroke ∈ wU := wU_of (i := 226) (by decide +kernel) (by decide +kernel)
theorem wd_143 : Cond.selects RX5 yX5_removeStroke yX5_removeStroke ∈ wU := wU_of (i := 227) (by decide +kernel) (by decide +kernel)
set_option maxRecDepth 20000 in
theorem wd_144 : Cond.code yX5_removeStroke cX5_removeStroke 2 (some .int) ∈ wU := wU_of (i := 228) rfl rfl
theorem wd_145 : Cond.methodLink RX5 73 yX1_hasStroke ∈ wU := wU_of (i := 229) (by decide +kernel) (by decide +kernel)
theorem wd_146 : Cond.instanceMethod yX1_hasStroke ∈ wU := wU_of (i := 230) (by decide +kernel) (by decide +kernel)
theorem wd_147 : Cond.selects RX1 yX1_hasStroke yX1_hasStroke ∈ wU := wU_of (i := 231) (by decide +kernel) (by decide +kernel)
set_option maxRecDepth 20000 in
theorem wd_148 : Cond.code yX1_hasStroke cX1_hasStroke 2 (some .boolean) ∈ wU := wU_of (i := 232) rfl rfl
theorem wd_149 : Cond.methodLink RX5 76 yX1_drop ∈ wU := wU_of (i := 233) (by decide +kernel) (by decide +kernel)
theorem wd_150 : Cond.instanceMethod yX1_drop ∈ wU := wU_of (i := 234) (by decide +kernel) (by decide +kernel)
theorem wd_151 : Cond.selects RX1 yX1_drop yX1_drop ∈ wU := wU_of (i := 235) (by decide +kernel) (by decide +kernel)
set_option maxRecDepth 20000 in
theorem wd_152 : Cond.code yX1_drop cX1_drop 3 none ∈ wU := wU_of (i := 236) rfl rfl
theorem wd_153 : Cond.methodLink RX1 28 yX1_hasStroke ∈ wU := wU_of (i := 237) (by decide +kernel) (by decide +kernel)
theorem wd_154 : Cond.methodLink RX1 44 yX1_dropFromPlan ∈ wU := wU_of (i := 238) (by decide +kernel) (by decide +kernel)
theorem wd_155 : Cond.instanceMethod yX1_dropFromPlan ∈ wU := wU_of (i := 240) (by decide +kernel) (by decide +kernel)
theorem wd_156 : Cond.selects RX1 yX1_dropFromPlan yX1_dropFromPlan ∈ wU := wU_of (i := 2) (by decide +kernel) (by decide +kernel)
set_option maxRecDepth 20000 in
theorem wd_157 : Cond.code yX1_dropFromPlan cX1_dropFromPlan 5 none ∈ wU := wU_of (i := 241) rfl rfl
theorem wd_158 : Cond.methodLink RL 22 yX6_removeStroke ∈ wU := wU_of (i := 647) (by decide +kernel) (by decide +kernel)
theorem wd_159 : Cond.instanceMethod yX6_removeStroke ∈ wU := wU_of (i := 648) (by decide +kernel) (by decide +kernel)
theorem wd_160 : Cond.selects RX6 yX6_removeStroke yX6_removeStroke ∈ wU := wU_of (i := 649) (by decide +kernel) (by decide +kernel)
set_option maxRecDepth 20000 in
theorem wd_161 : Cond.code yX6_removeStroke cX6_removeStroke 2 (some .int) ∈ wU := wU_of (i := 650) rfl rfl
theorem wd_162 : Cond.methodLink RX6 48 yX6_isStroke ∈ wU := wU_of (i := 651) (by decide +kernel) (by decide +kernel)
theorem wd_163 : Cond.instanceMethod yX6_isStroke ∈ wU := wU_of (i := 653) (by decide +kernel) (by decide +kernel)
theorem wd_164 : Cond.selects RX6 yX6_isStroke yX6_isStroke ∈ wU := wU_of (i := 27) (by decide +kernel) (by decide +kernel)
set_option maxRecDepth 20000 in
theorem wd_165 : Cond.code yX6_isStroke cX6_isStroke 2 (some .boolean) ∈ wU := wU_of (i := 654) rfl rfl
theorem wd_166 : Cond.methodLink RX6 52 yX6_removes ∈ wU := wU_of (i := 655) (by decide +kernel) (by decide +kernel)
theorem wd_167 : Cond.instanceMethod yX6_removes ∈ wU := wU_of (i := 657) (by decide +kernel) (by decide +kernel)
theorem wd_168 : Cond.selects RX6 yX6_removes yX6_removes ∈ wU := wU_of (i := 28) (by decide +kernel) (by decide +kernel)
set_option maxRecDepth 20000 in
theorem wd_169 : Cond.code yX6_removes cX6_removes 4 none ∈ wU := wU_of (i := 658) rfl rfl
theorem wd_170 : Cond.methodLink RL 23 yX5_strokeCount ∈ wU := wU_of (i := 242) (by decide +kernel) (by decide +kernel)
theorem wd_171 : Cond.instanceMethod yX5_strokeCount ∈ wU := wU_of (i := 243) (by decide +kernel) (by decide +kernel)
theorem wd_172 : Cond.selects RX5 yX5_strokeCount yX5_strokeCount ∈ wU := wU_of (i := 244) (by decide +kernel) (by decide +kernel)
set_option maxRecDepth 20000 in
theorem wd_173 : Cond.code yX5_strokeCount cX5_strokeCount 1 (some .int) ∈ wU := wU_of (i := 245) rfl rfl
theorem wd_174 : Cond.methodLink RL 27 yX6_strokeCount ∈ wU := wU_of (i := 659) (by decide +kernel) (by decide +kernel)
theorem wd_175 : Cond.instanceMethod yX6_strokeCount ∈ wU := wU_of (i := 660) (by decide +kernel) (by decide +kernel)
theorem wd_176 : Cond.selects RX6 yX6_strokeCount yX6_strokeCount ∈ wU := wU_of (i := 661) (by decide +kernel) (by decide +kernel)
set_option maxRecDepth 20000 in
theorem wd_177 : Cond.code yX6_strokeCount cX6_strokeCount 1 (some .int) ∈ wU := wU_of (i := 662) rfl rfl
theorem wd_178 : Cond.methodLink RL 28 yX5_penOf ∈ wU := wU_of (i := 246) (by decide +kernel) (by decide +kernel)
theorem wd_179 : Cond.instanceMethod yX5_penOf ∈ wU := wU_of (i := 247) (by decide +kernel) (by decide +kernel)
theorem wd_180 : Cond.selects RX5 yX5_penOf yX5_penOf ∈ wU := wU_of (i := 248) (by decide +kernel) (by decide +kernel)
set_option maxRecDepth 20000 in
theorem wd_181 : Cond.code yX5_penOf cX5_penOf 2 (some .int) ∈ wU := wU_of (i := 249) rfl rfl
theorem wd_182 : Cond.methodLink RX5 80 yX1_penOfStroke ∈ wU := wU_of (i := 250) (by decide +kernel) (by decide +kernel)
theorem wd_183 : Cond.instanceMethod yX1_penOfStroke ∈ wU := wU_of (i := 251) (by decide +kernel) (by decide +kernel)
theorem wd_184 : Cond.selects RX1 yX1_penOfStroke yX1_penOfStroke ∈ wU := wU_of (i := 252) (by decide +kernel) (by decide +kernel)
set_option maxRecDepth 20000 in
theorem wd_185 : Cond.code yX1_penOfStroke cX1_penOfStroke 2 (some .int) ∈ wU := wU_of (i := 253) rfl rfl
theorem wd_186 : Cond.methodLink RL 31 yX6_penOf ∈ wU := wU_of (i := 663) (by decide +kernel) (by decide +kernel)
theorem wd_187 : Cond.instanceMethod yX6_penOf ∈ wU := wU_of (i := 664) (by decide +kernel) (by decide +kernel)
theorem wd_188 : Cond.selects RX6 yX6_penOf yX6_penOf ∈ wU := wU_of (i := 665) (by decide +kernel) (by decide +kernel)
set_option maxRecDepth 20000 in
theorem wd_189 : Cond.code yX6_penOf cX6_penOf 2 (some .int) ∈ wU := wU_of (i := 666) rfl rfl
theorem wd_190 : Cond.methodLink RX6 56 yX6_penAt ∈ wU := wU_of (i := 667) (by decide +kernel) (by decide +kernel)
theorem wd_191 : Cond.instanceMethod yX6_penAt ∈ wU := wU_of (i := 669) (by decide +kernel) (by decide +kernel)
theorem wd_192 : Cond.selects RX6 yX6_penAt yX6_penAt ∈ wU := wU_of (i := 29) (by decide +kernel) (by decide +kernel)
set_option maxRecDepth 20000 in
theorem wd_193 : Cond.code yX6_penAt cX6_penAt 2 (some .int) ∈ wU := wU_of (i := 670) rfl rfl
theorem wd_194 : Cond.methodLink RL 32 yX5_alikeTo ∈ wU := wU_of (i := 254) (by decide +kernel) (by decide +kernel)
theorem wd_195 : Cond.instanceMethod yX5_alikeTo ∈ wU := wU_of (i := 255) (by decide +kernel) (by decide +kernel)
theorem wd_196 : Cond.selects RX5 yX5_alikeTo yX5_alikeTo ∈ wU := wU_of (i := 256) (by decide +kernel) (by decide +kernel)
set_option maxRecDepth 20000 in
theorem wd_197 : Cond.code yX5_alikeTo cX5_alikeTo 2 (some .int) ∈ wU := wU_of (i := 257) rfl rfl
theorem wd_198 : Cond.methodLink RX5 84 yX1_lowestAlike ∈ wU := wU_of (i := 258) (by decide +kernel) (by decide +kernel)
theorem wd_199 : Cond.instanceMethod yX1_lowestAlike ∈ wU := wU_of (i := 259) (by decide +kernel) (by decide +kernel)
theorem wd_200 : Cond.selects RX1 yX1_lowestAlike yX1_lowestAlike ∈ wU := wU_of (i := 260) (by decide +kernel) (by decide +kernel)
set_option maxRecDepth 20000 in
theorem wd_201 : Cond.code yX1_lowestAlike cX1_lowestAlike 3 (some .int) ∈ wU := wU_of (i := 261) rfl rfl
theorem wd_202 : Cond.methodLink RX1 92 yX1_areAlike ∈ wU := wU_of (i := 262) (by decide +kernel) (by decide +kernel)
theorem wd_203 : Cond.instanceMethod yX1_areAlike ∈ wU := wU_of (i := 264) (by decide +kernel) (by decide +kernel)
theorem wd_204 : Cond.selects RX1 yX1_areAlike yX1_areAlike ∈ wU := wU_of (i := 3) (by decide +kernel) (by decide +kernel)
set_option maxRecDepth 20000 in
theorem wd_205 : Cond.code yX1_areAlike cX1_areAlike 5 (some .boolean) ∈ wU := wU_of (i := 265) rfl rfl
theorem wd_206 : Cond.methodLink RX1 98 yX1_penOfStroke ∈ wU := wU_of (i := 266) (by decide +kernel) (by decide +kernel)
theorem wd_207 : Cond.methodLink RX1 101 yX1_samePoint ∈ wU := wU_of (i := 267) (by decide +kernel) (by decide +kernel)
theorem wd_208 : Cond.instanceMethod yX1_samePoint ∈ wU := wU_of (i := 268) (by decide +kernel) (by decide +kernel)
theorem wd_209 : Cond.selects RX1 yX1_samePoint yX1_samePoint ∈ wU := wU_of (i := 269) (by decide +kernel) (by decide +kernel)
set_option maxRecDepth 20000 in
theorem wd_210 : Cond.code yX1_samePoint cX1_samePoint 3 (some .boolean) ∈ wU := wU_of (i := 270) rfl rfl
theorem wd_211 : Cond.methodLink RX1 72 yX1_beginXOf ∈ wU := wU_of (i := 271) (by decide +kernel) (by decide +kernel)
theorem wd_212 : Cond.instanceMethod yX1_beginXOf ∈ wU := wU_of (i := 273) (by decide +kernel) (by decide +kernel)
theorem wd_213 : Cond.selects RX1 yX1_beginXOf yX1_beginXOf ∈ wU := wU_of (i := 4) (by decide +kernel) (by decide +kernel)
set_option maxRecDepth 20000 in
theorem wd_214 : Cond.code yX1_beginXOf cX1_beginXOf 2 (some .int) ∈ wU := wU_of (i := 274) rfl rfl
theorem wd_215 : Cond.methodLink RX1 35 yX1_hasCode ∈ wU := wU_of (i := 275) (by decide +kernel) (by decide +kernel)
theorem wd_216 : Cond.instanceMethod yX1_hasCode ∈ wU := wU_of (i := 277) (by decide +kernel) (by decide +kernel)
theorem wd_217 : Cond.selects RX1 yX1_hasCode yX1_hasCode ∈ wU := wU_of (i := 5) (by decide +kernel) (by decide +kernel)
set_option maxRecDepth 20000 in
theorem wd_218 : Cond.code yX1_hasCode cX1_hasCode 2 (some .boolean) ∈ wU := wU_of (i := 278) rfl rfl
theorem wd_219 : Cond.methodLink RX1 75 yX1_beginYOf ∈ wU := wU_of (i := 279) (by decide +kernel) (by decide +kernel)
theorem wd_220 : Cond.instanceMethod yX1_beginYOf ∈ wU := wU_of (i := 281) (by decide +kernel) (by decide +kernel)
theorem wd_221 : Cond.selects RX1 yX1_beginYOf yX1_beginYOf ∈ wU := wU_of (i := 6) (by decide +kernel) (by decide +kernel)
set_option maxRecDepth 20000 in
theorem wd_222 : Cond.code yX1_beginYOf cX1_beginYOf 2 (some .int) ∈ wU := wU_of (i := 282) rfl rfl
theorem wd_223 : Cond.methodLink RL 35 yX6_alikeTo ∈ wU := wU_of (i := 671) (by decide +kernel) (by decide +kernel)
theorem wd_224 : Cond.instanceMethod yX6_alikeTo ∈ wU := wU_of (i := 672) (by decide +kernel) (by decide +kernel)
theorem wd_225 : Cond.selects RX6 yX6_alikeTo yX6_alikeTo ∈ wU := wU_of (i := 673) (by decide +kernel) (by decide +kernel)
set_option maxRecDepth 20000 in
theorem wd_226 : Cond.code yX6_alikeTo cX6_alikeTo 3 (some .int) ∈ wU := wU_of (i := 674) rfl rfl
theorem wd_227 : Cond.methodLink RX6 60 yX6_areAlike ∈ wU := wU_of (i := 675) (by decide +kernel) (by decide +kernel)
theorem wd_228 : Cond.instanceMethod yX6_areAlike ∈ wU := wU_of (i := 677) (by decide +kernel) (by decide +kernel)
theorem wd_229 : Cond.selects RX6 yX6_areAlike yX6_areAlike ∈ wU := wU_of (i := 30) (by decide +kernel) (by decide +kernel)
set_option maxRecDepth 20000 in
theorem wd_230 : Cond.code yX6_areAlike cX6_areAlike 5 (some .boolean) ∈ wU := wU_of (i := 678) rfl rfl
theorem wd_231 : Cond.methodLink RL 36 yX5_coveredBy ∈ wU := wU_of (i := 283) (by decide +kernel) (by decide +kernel)
theorem wd_232 : Cond.instanceMethod yX5_coveredBy ∈ wU := wU_of (i := 284) (by decide +kernel) (by decide +kernel)
theorem wd_233 : Cond.selects RX5 yX5_coveredBy yX5_coveredBy ∈ wU := wU_of (i := 285) (by decide +kernel) (by decide +kernel)
set_option maxRecDepth 20000 in
theorem wd_234 : Cond.code yX5_coveredBy cX5_coveredBy 2 (some .int) ∈ wU := wU_of (i := 286) rfl rfl
theorem wd_235 : Cond.methodLink RX5 87 yX1_lowestCover ∈ wU := wU_of (i := 287) (by decide +kernel) (by decide +kernel)
theorem wd_236 : Cond.instanceMethod yX1_lowestCover ∈ wU := wU_of (i := 288) (by decide +kernel) (by decide +kernel)
theorem wd_237 : Cond.selects RX1 yX1_lowestCover yX1_lowestCover ∈ wU := wU_of (i := 289) (by decide +kernel) (by decide +kernel)
set_option maxRecDepth 20000 in
theorem wd_238 : Cond.code yX1_lowestCover cX1_lowestCover 3 (some .int) ∈ wU := wU_of (i := 290) rfl rfl
theorem wd_239 : Cond.methodLink RX1 95 yX1_covers ∈ wU := wU_of (i := 291) (by decide +kernel) (by decide +kernel)
theorem wd_240 : Cond.instanceMethod yX1_covers ∈ wU := wU_of (i := 293) (by decide +kernel) (by decide +kernel)
theorem wd_241 : Cond.selects RX1 yX1_covers yX1_covers ∈ wU := wU_of (i := 7) (by decide +kernel) (by decide +kernel)
set_option maxRecDepth 20000 in
theorem wd_242 : Cond.code yX1_covers cX1_covers 3 (some .boolean) ∈ wU := wU_of (i := 294) rfl rfl
theorem wd_243 : Cond.methodLink RX1 104 yX1_liesOn ∈ wU := wU_of (i := 295) (by decide +kernel) (by decide +kernel)
theorem wd_244 : Cond.instanceMethod yX1_liesOn ∈ wU := wU_of (i := 297) (by decide +kernel) (by decide +kernel)
theorem wd_245 : Cond.selects RX1 yX1_liesOn yX1_liesOn ∈ wU := wU_of (i := 8) (by decide +kernel) (by decide +kernel)
set_option maxRecDepth 20000 in
theorem wd_246 : Cond.code yX1_liesOn cX1_liesOn 9 (some .boolean) ∈ wU := wU_of (i := 298) rfl rfl
theorem wd_247 : Cond.methodLink RX1 107 Lib.Math.min.name ∈ wU := wU_of (i := 307) (by decide +kernel) (by decide +kernel)
theorem wd_248 : Cond.methodLink RX1 113 Lib.Math.max.name ∈ wU := wU_of (i := 308) (by decide +kernel) (by decide +kernel)
theorem wd_249 : Cond.static Lib.Math.max.name ∈ wU := wU_of (i := 309) (by decide +kernel) (by decide +kernel)
set_option maxRecDepth 20000 in
theorem wd_250 : Cond.code Lib.Math.max.name Lib.Math.max.code 2 (some .int) ∈ wU := wU_of (i := 310) rfl rfl
theorem wd_251 : Cond.methodLink RX1 66 yX1_endXOf ∈ wU := wU_of (i := 299) (by decide +kernel) (by decide +kernel)
theorem wd_252 : Cond.instanceMethod yX1_endXOf ∈ wU := wU_of (i := 301) (by decide +kernel) (by decide +kernel)
theorem wd_253 : Cond.selects RX1 yX1_endXOf yX1_endXOf ∈ wU := wU_of (i := 9) (by decide +kernel) (by decide +kernel)
set_option maxRecDepth 20000 in
theorem wd_254 : Cond.code yX1_endXOf cX1_endXOf 2 (some .int) ∈ wU := wU_of (i := 302) rfl rfl
theorem wd_255 : Cond.methodLink RX1 69 yX1_endYOf ∈ wU := wU_of (i := 303) (by decide +kernel) (by decide +kernel)
theorem wd_256 : Cond.instanceMethod yX1_endYOf ∈ wU := wU_of (i := 305) (by decide +kernel) (by decide +kernel)
theorem wd_257 : Cond.selects RX1 yX1_endYOf yX1_endYOf ∈ wU := wU_of (i := 10) (by decide +kernel) (by decide +kernel)
set_option maxRecDepth 20000 in
theorem wd_258 : Cond.code yX1_endYOf cX1_endYOf 2 (some .int) ∈ wU := wU_of (i := 306) rfl rfl
theorem wd_259 : Cond.methodLink RL 39 yX6_coveredBy ∈ wU := wU_of (i := 679) (by decide +kernel) (by decide +kernel)
theorem wd_260 : Cond.instanceMethod yX6_coveredBy ∈ wU := wU_of (i := 680) (by decide +kernel) (by decide +kernel)
theorem wd_261 : Cond.selects RX6 yX6_coveredBy yX6_coveredBy ∈ wU := wU_of (i := 681) (by decide +kernel) (by decide +kernel)
set_option maxRecDepth 20000 in
theorem wd_262 : Cond.code yX6_coveredBy cX6_coveredBy 4 (some .int) ∈ wU := wU_of (i := 682) rfl rfl
theorem wd_263 : Cond.methodLink RX6 67 yX6_lies ∈ wU := wU_of (i := 683) (by decide +kernel) (by decide +kernel)
theorem wd_264 : Cond.instanceMethod yX6_lies ∈ wU := wU_of (i := 685) (by decide +kernel) (by decide +kernel)
theorem wd_265 : Cond.selects RX6 yX6_lies yX6_lies ∈ wU := wU_of (i := 31) (by decide +kernel) (by decide +kernel)
set_option maxRecDepth 20000 in
theorem wd_266 : Cond.code yX6_lies cX6_lies 8 (some .boolean) ∈ wU := wU_of (i := 686) rfl rfl
theorem wd_267 : Cond.methodLink RX6 64 yX6_isBetween ∈ wU := wU_of (i := 687) (by decide +kernel) (by decide +kernel)
theorem wd_268 : Cond.static yX6_isBetween ∈ wU := wU_of (i := 688) (by decide +kernel) (by decide +kernel)
set_option maxRecDepth 20000 in
theorem wd_269 : Cond.code yX6_isBetween cX6_isBetween 3 (some .boolean) ∈ wU := wU_of (i := 689) rfl rfl
theorem wd_270 : Cond.methodLink RL 40 yX5_removeDuplicates ∈ wU := wU_of (i := 312) (by decide +kernel) (by decide +kernel)
theorem wd_271 : Cond.instanceMethod yX5_removeDuplicates ∈ wU := wU_of (i := 313) (by decide +kernel) (by decide +kernel)
theorem wd_272 : Cond.selects RX5 yX5_removeDuplicates yX5_removeDuplicates ∈ wU := wU_of (i := 314) (by decide +kernel) (by decide +kernel)
set_option maxRecDepth 20000 in
theorem wd_273 : Cond.code yX5_removeDuplicates cX5_removeDuplicates 1 (some .int) ∈ wU := wU_of (i := 315) rfl rfl
theorem wd_274 : Cond.methodLink RX5 90 yX1_dropDuplicates ∈ wU := wU_of (i := 316) (by decide +kernel) (by decide +kernel)
theorem wd_275 : Cond.instanceMethod yX1_dropDuplicates ∈ wU := wU_of (i := 317) (by decide +kernel) (by decide +kernel)
theorem wd_276 : Cond.selects RX1 yX1_dropDuplicates yX1_dropDuplicates ∈ wU := wU_of (i := 318) (by decide +kernel) (by decide +kernel)
set_option maxRecDepth 20000 in
theorem wd_277 : Cond.code yX1_dropDuplicates cX1_dropDuplicates 4 (some .int) ∈ wU := wU_of (i := 319) rfl rfl
theorem wd_278 : Cond.methodLink RX1 48 yX1_lowestAlike ∈ wU := wU_of (i := 320) (by decide +kernel) (by decide +kernel)
theorem wd_279 : Cond.methodLink RX1 52 yX1_drop ∈ wU := wU_of (i := 321) (by decide +kernel) (by decide +kernel)
theorem wd_280 : Cond.methodLink RL 43 yX6_removeDuplicates ∈ wU := wU_of (i := 690) (by decide +kernel) (by decide +kernel)
theorem wd_281 : Cond.instanceMethod yX6_removeDuplicates ∈ wU := wU_of (i := 691) (by decide +kernel) (by decide +kernel)
theorem wd_282 : Cond.selects RX6 yX6_removeDuplicates yX6_removeDuplicates ∈ wU := wU_of (i := 692) (by decide +kernel) (by decide +kernel)
set_option maxRecDepth 20000 in
theorem wd_283 : Cond.code yX6_removeDuplicates cX6_removeDuplicates 5 (some .int) ∈ wU := wU_of (i := 693) rfl rfl
theorem wd_284 : Cond.methodLink RL 44 yX5_leastRuns ∈ wU := wU_of (i := 322) (by decide +kernel) (by decide +kernel)
theorem wd_285 : Cond.instanceMethod yX5_leastRuns ∈ wU := wU_of (i := 323) (by decide +kernel) (by decide +kernel)
theorem wd_286 : Cond.selects RX5 yX5_leastRuns yX5_leastRuns ∈ wU := wU_of (i := 324) (by decide +kernel) (by decide +kernel)
set_option maxRecDepth 20000 in
theorem wd_287 : Cond.code yX5_leastRuns cX5_leastRuns 2 (some .int) ∈ wU := wU_of (i := 325) rfl rfl
theorem wd_288 : Cond.methodLink RX5 93 yX3_fewestRuns ∈ wU := wU_of (i := 326) (by decide +kernel) (by decide +kernel)
theorem wd_289 : Cond.instanceMethod yX3_fewestRuns ∈ wU := wU_of (i := 327) (by decide +kernel) (by decide +kernel)
theorem wd_290 : Cond.selects RX3 yX3_fewestRuns yX3_fewestRuns ∈ wU := wU_of (i := 328) (by decide +kernel) (by decide +kernel)
set_option maxRecDepth 20000 in
theorem wd_291 : Cond.code yX3_fewestRuns cX3_fewestRuns 6 (some .int) ∈ wU := wU_of (i := 329) rfl rfl
theorem wd_292 : Cond.methodLink RX3 21 Lib.Math.min.name ∈ wU := wU_of (i := 331) (by decide +kernel) (by decide +kernel)
theorem wd_293 : Cond.methodLink RX3 39 Lib.Math.max.name ∈ wU := wU_of (i := 353) (by decide +kernel) (by decide +kernel)
theorem wd_294 : Cond.methodLink RX3 15 yX1_size ∈ wU := wU_of (i := 330) (by decide +kernel) (by decide +kernel)
theorem wd_295 : Cond.methodLink RX3 27 yX3_joinComponents ∈ wU := wU_of (i := 332) (by decide +kernel) (by decide +kernel)
theorem wd_296 : Cond.instanceMethod yX3_joinComponents ∈ wU := wU_of (i := 334) (by decide +kernel) (by decide +kernel)
theorem wd_297 : Cond.selects RX3 yX3_joinComponents yX3_joinComponents ∈ wU := wU_of (i := 11) (by decide +kernel) (by decide +kernel)
set_option maxRecDepth 20000 in
theorem wd_298 : Cond.code yX3_joinComponents cX3_joinComponents 6 none ∈ wU := wU_of (i := 335) rfl rfl
theorem wd_299 : Cond.methodLink RX3 31 yX1_penOfStroke ∈ wU := wU_of (i := 336) (by decide +kernel) (by decide +kernel)
theorem wd_300 : Cond.methodLink RX3 42 yX3_touch ∈ wU := wU_of (i := 337) (by decide +kernel) (by decide +kernel)
theorem wd_301 : Cond.static yX3_touch ∈ wU := wU_of (i := 338) (by decide +kernel) (by decide +kernel)
set_option maxRecDepth 20000 in
theorem wd_302 : Cond.code yX3_touch cX3_touch 5 (some .boolean) ∈ wU := wU_of (i := 339) rfl rfl
theorem wd_303 : Cond.methodLink RX3 50 yX1_samePoint ∈ wU := wU_of (i := 340) (by decide +kernel) (by decide +kernel)
theorem wd_304 : Cond.methodLink RX3 46 yX3_rename ∈ wU := wU_of (i := 341) (by decide +kernel) (by decide +kernel)
theorem wd_305 : Cond.instanceMethod yX3_rename ∈ wU := wU_of (i := 343) (by decide +kernel) (by decide +kernel)
theorem wd_306 : Cond.selects RX3 yX3_rename yX3_rename ∈ wU := wU_of (i := 12) (by decide +kernel) (by decide +kernel)
set_option maxRecDepth 20000 in
theorem wd_307 : Cond.code yX3_rename cX3_rename 5 none ∈ wU := wU_of (i := 344) rfl rfl
theorem wd_308 : Cond.methodLink RX3 35 yX3_countOddVertices ∈ wU := wU_of (i := 345) (by decide +kernel) (by decide +kernel)
theorem wd_309 : Cond.instanceMethod yX3_countOddVertices ∈ wU := wU_of (i := 347) (by decide +kernel) (by decide +kernel)
theorem wd_310 : Cond.selects RX3 yX3_countOddVertices yX3_countOddVertices ∈ wU := wU_of (i := 13) (by decide +kernel) (by decide +kernel)
set_option maxRecDepth 20000 in
theorem wd_311 : Cond.code yX3_countOddVertices cX3_countOddVertices 6 (some .int) ∈ wU := wU_of (i := 348) rfl rfl
theorem wd_312 : Cond.methodLink RX3 54 yX3_isOddVertex ∈ wU := wU_of (i := 349) (by decide +kernel) (by decide +kernel)
theorem wd_313 : Cond.instanceMethod yX3_isOddVertex ∈ wU := wU_of (i := 351) (by decide +kernel) (by decide +kernel)
theorem wd_314 : Cond.selects RX3 yX3_isOddVertex yX3_isOddVertex ∈ wU := wU_of (i := 14) (by decide +kernel) (by decide +kernel)
set_option maxRecDepth 20000 in
theorem wd_315 : Cond.code yX3_isOddVertex cX3_isOddVertex 6 (some .boolean) ∈ wU := wU_of (i := 352) rfl rfl
theorem wd_316 : Cond.methodLink RL 47 yX6_leastRuns ∈ wU := wU_of (i := 694) (by decide +kernel) (by decide +kernel)
theorem wd_317 : Cond.instanceMethod yX6_leastRuns ∈ wU := wU_of (i := 695) (by decide +kernel) (by decide +kernel)
theorem wd_318 : Cond.selects RX6 yX6_leastRuns yX6_leastRuns ∈ wU := wU_of (i := 696) (by decide +kernel) (by decide +kernel)
set_option maxRecDepth 20000 in
theorem wd_319 : Cond.code yX6_leastRuns cX6_leastRuns 6 (some .int) ∈ wU := wU_of (i := 697) rfl rfl
theorem wd_320 : Cond.methodLink RX6 76 yX6_joins ∈ wU := wU_of (i := 698) (by decide +kernel) (by decide +kernel)
theorem wd_321 : Cond.instanceMethod yX6_joins ∈ wU := wU_of (i := 700) (by decide +kernel) (by decide +kernel)
theorem wd_322 : Cond.selects RX6 yX6_joins yX6_joins ∈ wU := wU_of (i := 32) (by decide +kernel) (by decide +kernel)
set_option maxRecDepth 20000 in
theorem wd_323 : Cond.code yX6_joins cX6_joins 7 none ∈ wU := wU_of (i := 701) rfl rfl
theorem wd_324 : Cond.methodLink RX6 70 yX6_isOfPen ∈ wU := wU_of (i := 702) (by decide +kernel) (by decide +kernel)
theorem wd_325 : Cond.instanceMethod yX6_isOfPen ∈ wU := wU_of (i := 704) (by decide +kernel) (by decide +kernel)
theorem wd_326 : Cond.selects RX6 yX6_isOfPen yX6_isOfPen ∈ wU := wU_of (i := 33) (by decide +kernel) (by decide +kernel)
set_option maxRecDepth 20000 in
theorem wd_327 : Cond.code yX6_isOfPen cX6_isOfPen 3 (some .boolean) ∈ wU := wU_of (i := 705) rfl rfl
theorem wd_328 : Cond.methodLink RX6 73 yX6_isSamePoint ∈ wU := wU_of (i := 706) (by decide +kernel) (by decide +kernel)
theorem wd_329 : Cond.instanceMethod yX6_isSamePoint ∈ wU := wU_of (i := 708) (by decide +kernel) (by decide +kernel)
theorem wd_330 : Cond.selects RX6 yX6_isSamePoint yX6_isSamePoint ∈ wU := wU_of (i := 34) (by decide +kernel) (by decide +kernel)
set_option maxRecDepth 20000 in
theorem wd_331 : Cond.code yX6_isSamePoint cX6_isSamePoint 5 (some .boolean) ∈ wU := wU_of (i := 709) rfl rfl
theorem wd_332 : Cond.methodLink RX6 79 yX6_degree ∈ wU := wU_of (i := 710) (by decide +kernel) (by decide +kernel)
theorem wd_333 : Cond.instanceMethod yX6_degree ∈ wU := wU_of (i := 712) (by decide +kernel) (by decide +kernel)
theorem wd_334 : Cond.selects RX6 yX6_degree yX6_degree ∈ wU := wU_of (i := 35) (by decide +kernel) (by decide +kernel)
set_option maxRecDepth 20000 in
theorem wd_335 : Cond.code yX6_degree cX6_degree 6 (some .int) ∈ wU := wU_of (i := 713) rfl rfl
theorem wd_336 : Cond.methodLink RL 48 yX5_strokeAt ∈ wU := wU_of (i := 354) (by decide +kernel) (by decide +kernel)
theorem wd_337 : Cond.instanceMethod yX5_strokeAt ∈ wU := wU_of (i := 355) (by decide +kernel) (by decide +kernel)
theorem wd_338 : Cond.selects RX5 yX5_strokeAt yX5_strokeAt ∈ wU := wU_of (i := 356) (by decide +kernel) (by decide +kernel)
set_option maxRecDepth 20000 in
theorem wd_339 : Cond.code yX5_strokeAt cX5_strokeAt 3 (some .int) ∈ wU := wU_of (i := 357) rfl rfl
theorem wd_340 : Cond.methodLink RX5 97 yX5_codeOrError ∈ wU := wU_of (i := 358) (by decide +kernel) (by decide +kernel)
theorem wd_341 : Cond.instanceMethod yX5_codeOrError ∈ wU := wU_of (i := 360) (by decide +kernel) (by decide +kernel)
theorem wd_342 : Cond.selects RX5 yX5_codeOrError yX5_codeOrError ∈ wU := wU_of (i := 15) (by decide +kernel) (by decide +kernel)
set_option maxRecDepth 20000 in
theorem wd_343 : Cond.code yX5_codeOrError cX5_codeOrError 2 (some .int) ∈ wU := wU_of (i := 361) rfl rfl
theorem wd_344 : Cond.methodLink RX5 100 yX1_hasPosition ∈ wU := wU_of (i := 362) (by decide +kernel) (by decide +kernel)
theorem wd_345 : Cond.instanceMethod yX1_hasPosition ∈ wU := wU_of (i := 363) (by decide +kernel) (by decide +kernel)
theorem wd_346 : Cond.selects RX1 yX1_hasPosition yX1_hasPosition ∈ wU := wU_of (i := 364) (by decide +kernel) (by decide +kernel)
set_option maxRecDepth 20000 in
theorem wd_347 : Cond.code yX1_hasPosition cX1_hasPosition 2 (some .boolean) ∈ wU := wU_of (i := 365) rfl rfl
theorem wd_348 : Cond.methodLink RX5 107 yX1_codeAt ∈ wU := wU_of (i := 366) (by decide +kernel) (by decide +kernel)
theorem wd_349 : Cond.instanceMethod yX1_codeAt ∈ wU := wU_of (i := 367) (by decide +kernel) (by decide +kernel)
theorem wd_350 : Cond.selects RX1 yX1_codeAt yX1_codeAt ∈ wU := wU_of (i := 368) (by decide +kernel) (by decide +kernel)
set_option maxRecDepth 20000 in
theorem wd_351 : Cond.code yX1_codeAt cX1_codeAt 2 (some .int) ∈ wU := wU_of (i := 369) rfl rfl
theorem wd_352 : Cond.methodLink RX1 32 yX1_hasPosition ∈ wU := wU_of (i := 370) (by decide +kernel) (by decide +kernel)
theorem wd_353 : Cond.methodLink RL 51 yX6_strokeAt ∈ wU := wU_of (i := 714) (by decide +kernel) (by decide +kernel)
theorem wd_354 : Cond.instanceMethod yX6_strokeAt ∈ wU := wU_of (i := 715) (by decide +kernel) (by decide +kernel)
theorem wd_355 : Cond.selects RX6 yX6_strokeAt yX6_strokeAt ∈ wU := wU_of (i := 716) (by decide +kernel) (by decide +kernel)
set_option maxRecDepth 20000 in
theorem wd_356 : Cond.code yX6_strokeAt cX6_strokeAt 2 (some .int) ∈ wU := wU_of (i := 717) rfl rfl
theorem wd_357 : Cond.methodLink RX6 83 yX6_isPosition ∈ wU := wU_of (i := 718) (by decide +kernel) (by decide +kernel)
theorem wd_358 : Cond.instanceMethod yX6_isPosition ∈ wU := wU_of (i := 720) (by decide +kernel) (by decide +kernel)
theorem wd_359 : Cond.selects RX6 yX6_isPosition yX6_isPosition ∈ wU := wU_of (i := 36) (by decide +kernel) (by decide +kernel)
set_option maxRecDepth 20000 in
theorem wd_360 : Cond.code yX6_isPosition cX6_isPosition 2 (some .boolean) ∈ wU := wU_of (i := 721) rfl rfl
theorem wd_361 : Cond.methodLink RX6 86 yX6_at ∈ wU := wU_of (i := 722) (by decide +kernel) (by decide +kernel)
theorem wd_362 : Cond.instanceMethod yX6_at ∈ wU := wU_of (i := 724) (by decide +kernel) (by decide +kernel)
theorem wd_363 : Cond.selects RX6 yX6_at yX6_at ∈ wU := wU_of (i := 37) (by decide +kernel) (by decide +kernel)
set_option maxRecDepth 20000 in
theorem wd_364 : Cond.code yX6_at cX6_at 2 (some .int) ∈ wU := wU_of (i := 725) rfl rfl
theorem wd_365 : Cond.methodLink RL 52 yX5_directionAt ∈ wU := wU_of (i := 371) (by decide +kernel) (by decide +kernel)
theorem wd_366 : Cond.instanceMethod yX5_directionAt ∈ wU := wU_of (i := 372) (by decide +kernel) (by decide +kernel)
theorem wd_367 : Cond.selects RX5 yX5_directionAt yX5_directionAt ∈ wU := wU_of (i := 373) (by decide +kernel) (by decide +kernel)
set_option maxRecDepth 20000 in
theorem wd_368 : Cond.code yX5_directionAt cX5_directionAt 3 (some .int) ∈ wU := wU_of (i := 374) rfl rfl
theorem wd_369 : Cond.methodLink RL 55 yX6_directionAt ∈ wU := wU_of (i := 726) (by decide +kernel) (by decide +kernel)
theorem wd_370 : Cond.instanceMethod yX6_directionAt ∈ wU := wU_of (i := 727) (by decide +kernel) (by decide +kernel)
theorem wd_371 : Cond.selects RX6 yX6_directionAt yX6_directionAt ∈ wU := wU_of (i := 728) (by decide +kernel) (by decide +kernel)
set_option maxRecDepth 20000 in
theorem wd_372 : Cond.code yX6_directionAt cX6_directionAt 2 (some .int) ∈ wU := wU_of (i := 729) rfl rfl
theorem wd_373 : Cond.methodLink RL 56 yX5_movePosition ∈ wU := wU_of (i := 375) (by decide +kernel) (by decide +kernel)
theorem wd_374 : Cond.instanceMethod yX5_movePosition ∈ wU := wU_of (i := 376) (by decide +kernel) (by decide +kernel)
theorem wd_375 : Cond.selects RX5 yX5_movePosition yX5_movePosition ∈ wU := wU_of (i := 377) (by decide +kernel) (by decide +kernel)
set_option maxRecDepth 20000 in
theorem wd_376 : Cond.code yX5_movePosition cX5_movePosition 3 (some .int) ∈ wU := wU_of (i := 378) rfl rfl
theorem wd_377 : Cond.methodLink RX5 103 yX1_move ∈ wU := wU_of (i := 379) (by decide +kernel) (by decide +kernel)
theorem wd_378 : Cond.instanceMethod yX1_move ∈ wU := wU_of (i := 380) (by decide +kernel) (by decide +kernel)
theorem wd_379 : Cond.selects RX1 yX1_move yX1_move ∈ wU := wU_of (i := 381) (by decide +kernel) (by decide +kernel)
set_option maxRecDepth 20000 in
theorem wd_380 : Cond.code yX1_move cX1_move 5 none ∈ wU := wU_of (i := 382) rfl rfl
theorem wd_381 : Cond.methodLink RL 60 yX6_movePosition ∈ wU := wU_of (i := 730) (by decide +kernel) (by decide +kernel)
theorem wd_382 : Cond.instanceMethod yX6_movePosition ∈ wU := wU_of (i := 731) (by decide +kernel) (by decide +kernel)
theorem wd_383 : Cond.selects RX6 yX6_movePosition yX6_movePosition ∈ wU := wU_of (i := 732) (by decide +kernel) (by decide +kernel)
set_option maxRecDepth 20000 in
theorem wd_384 : Cond.code yX6_movePosition cX6_movePosition 6 (some .int) ∈ wU := wU_of (i := 733) rfl rfl
theorem wd_385 : Cond.methodLink RL 61 yX5_turnPosition ∈ wU := wU_of (i := 383) (by decide +kernel) (by decide +kernel)
theorem wd_386 : Cond.instanceMethod yX5_turnPosition ∈ wU := wU_of (i := 384) (by decide +kernel) (by decide +kernel)
theorem wd_387 : Cond.selects RX5 yX5_turnPosition yX5_turnPosition ∈ wU := wU_of (i := 385) (by decide +kernel) (by decide +kernel)
set_option maxRecDepth 20000 in
theorem wd_388 : Cond.code yX5_turnPosition cX5_turnPosition 2 (some .int) ∈ wU := wU_of (i := 386) rfl rfl
theorem wd_389 : Cond.methodLink RX5 110 yX1_turn ∈ wU := wU_of (i := 387) (by decide +kernel) (by decide +kernel)
theorem wd_390 : Cond.instanceMethod yX1_turn ∈ wU := wU_of (i := 388) (by decide +kernel) (by decide +kernel)
theorem wd_391 : Cond.selects RX1 yX1_turn yX1_turn ∈ wU := wU_of (i := 389) (by decide +kernel) (by decide +kernel)
set_option maxRecDepth 20000 in
theorem wd_392 : Cond.code yX1_turn cX1_turn 2 none ∈ wU := wU_of (i := 390) rfl rfl
theorem wd_393 : Cond.methodLink RL 64 yX6_turnPosition ∈ wU := wU_of (i := 734) (by decide +kernel) (by decide +kernel)
theorem wd_394 : Cond.instanceMethod yX6_turnPosition ∈ wU := wU_of (i := 735) (by decide +kernel) (by decide +kernel)
theorem wd_395 : Cond.selects RX6 yX6_turnPosition yX6_turnPosition ∈ wU := wU_of (i := 736) (by decide +kernel) (by decide +kernel)
set_option maxRecDepth 20000 in
theorem wd_396 : Cond.code yX6_turnPosition cX6_turnPosition 2 (some .int) ∈ wU := wU_of (i := 737) rfl rfl
theorem wd_397 : Cond.methodLink RL 65 yX5_cost ∈ wU := wU_of (i := 391) (by decide +kernel) (by decide +kernel)
theorem wd_398 : Cond.instanceMethod yX5_cost ∈ wU := wU_of (i := 392) (by decide +kernel) (by decide +kernel)
theorem wd_399 : Cond.selects RX5 yX5_cost yX5_cost ∈ wU := wU_of (i := 393) (by decide +kernel) (by decide +kernel)
set_option maxRecDepth 20000 in
theorem wd_400 : Cond.code yX5_cost cX5_cost 1 (some .int) ∈ wU := wU_of (i := 394) rfl rfl
theorem wd_401 : Cond.methodLink RX5 113 yX1_planCost ∈ wU := wU_of (i := 395) (by decide +kernel) (by decide +kernel)
theorem wd_402 : Cond.instanceMethod yX1_planCost ∈ wU := wU_of (i := 396) (by decide +kernel) (by decide +kernel)
theorem wd_403 : Cond.selects RX1 yX1_planCost yX1_planCost ∈ wU := wU_of (i := 397) (by decide +kernel) (by decide +kernel)
set_option maxRecDepth 20000 in
theorem wd_404 : Cond.code yX1_planCost cX1_planCost 5 (some .int) ∈ wU := wU_of (i := 398) rfl rfl
theorem wd_405 : Cond.methodLink RX1 63 yX1_stepCost ∈ wU := wU_of (i := 399) (by decide +kernel) (by decide +kernel)
theorem wd_406 : Cond.instanceMethod yX1_stepCost ∈ wU := wU_of (i := 400) (by decide +kernel) (by decide +kernel)
theorem wd_407 : Cond.selects RX1 yX1_stepCost yX1_stepCost ∈ wU := wU_of (i := 401) (by decide +kernel) (by decide +kernel)
set_option maxRecDepth 20000 in
theorem wd_408 : Cond.code yX1_stepCost cX1_stepCost 5 (some .int) ∈ wU := wU_of (i := 402) rfl rfl
theorem wd_409 : Cond.methodLink RX1 78 yX1_wayLength ∈ wU := wU_of (i := 403) (by decide +kernel) (by decide +kernel)
theorem wd_410 : Cond.static yX1_wayLength ∈ wU := wU_of (i := 404) (by decide +kernel) (by decide +kernel)
set_option maxRecDepth 20000 in
theorem wd_411 : Cond.code yX1_wayLength cX1_wayLength 4 (some .int) ∈ wU := wU_of (i := 405) rfl rfl
theorem wd_412 : Cond.methodLink RX1 123 Lib.Math.abs.name ∈ wU := wU_of (i := 406) (by decide +kernel) (by decide +kernel)
theorem wd_413 : Cond.static Lib.Math.abs.name ∈ wU := wU_of (i := 407) (by decide +kernel) (by decide +kernel)
set_option maxRecDepth 20000 in
theorem wd_414 : Cond.code Lib.Math.abs.name Lib.Math.abs.code 1 (some .int) ∈ wU := wU_of (i := 408) rfl rfl
theorem wd_415 : Cond.methodLink RX1 82 yX1_changesPen ∈ wU := wU_of (i := 409) (by decide +kernel) (by decide +kernel)
theorem wd_416 : Cond.instanceMethod yX1_changesPen ∈ wU := wU_of (i := 411) (by decide +kernel) (by decide +kernel)
theorem wd_417 : Cond.selects RX1 yX1_changesPen yX1_changesPen ∈ wU := wU_of (i := 16) (by decide +kernel) (by decide +kernel)
set_option maxRecDepth 20000 in
theorem wd_418 : Cond.code yX1_changesPen cX1_changesPen 3 (some .boolean) ∈ wU := wU_of (i := 412) rfl rfl
theorem wd_419 : Cond.methodLink RX1 86 yX1_penOfCode ∈ wU := wU_of (i := 413) (by decide +kernel) (by decide +kernel)
theorem wd_420 : Cond.instanceMethod yX1_penOfCode ∈ wU := wU_of (i := 415) (by decide +kernel) (by decide +kernel)
theorem wd_421 : Cond.selects RX1 yX1_penOfCode yX1_penOfCode ∈ wU := wU_of (i := 17) (by decide +kernel) (by decide +kernel)
set_option maxRecDepth 20000 in
theorem wd_422 : Cond.code yX1_penOfCode cX1_penOfCode 2 (some .int) ∈ wU := wU_of (i := 416) rfl rfl
theorem wd_423 : Cond.methodLink RL 68 yX6_cost ∈ wU := wU_of (i := 738) (by decide +kernel) (by decide +kernel)
theorem wd_424 : Cond.instanceMethod yX6_cost ∈ wU := wU_of (i := 739) (by decide +kernel) (by decide +kernel)
theorem wd_425 : Cond.selects RX6 yX6_cost yX6_cost ∈ wU := wU_of (i := 740) (by decide +kernel) (by decide +kernel)
set_option maxRecDepth 20000 in
theorem wd_426 : Cond.code yX6_cost cX6_cost 3 (some .int) ∈ wU := wU_of (i := 741) rfl rfl
theorem wd_427 : Cond.methodLink RX6 98 yX6_step ∈ wU := wU_of (i := 742) (by decide +kernel) (by decide +kernel)
theorem wd_428 : Cond.instanceMethod yX6_step ∈ wU := wU_of (i := 744) (by decide +kernel) (by decide +kernel)
theorem wd_429 : Cond.selects RX6 yX6_step yX6_step ∈ wU := wU_of (i := 38) (by decide +kernel) (by decide +kernel)
set_option maxRecDepth 20000 in
theorem wd_430 : Cond.code yX6_step cX6_step 5 (some .int) ∈ wU := wU_of (i := 745) rfl rfl
theorem wd_431 : Cond.methodLink RX6 89 yX6_begin ∈ wU := wU_of (i := 746) (by decide +kernel) (by decide +kernel)
theorem wd_432 : Cond.static yX6_begin ∈ wU := wU_of (i := 747) (by decide +kernel) (by decide +kernel)
set_option maxRecDepth 20000 in
theorem wd_433 : Cond.code yX6_begin cX6_begin 1 (some .int) ∈ wU := wU_of (i := 748) rfl rfl
theorem wd_434 : Cond.methodLink RX6 92 yX6_end ∈ wU := wU_of (i := 749) (by decide +kernel) (by decide +kernel)
theorem wd_435 : Cond.static yX6_end ∈ wU := wU_of (i := 750) (by decide +kernel) (by decide +kernel)
set_option maxRecDepth 20000 in
theorem wd_436 : Cond.code yX6_end cX6_end 1 (some .int) ∈ wU := wU_of (i := 751) rfl rfl
theorem wd_437 : Cond.methodLink RX6 95 yX6_far ∈ wU := wU_of (i := 752) (by decide +kernel) (by decide +kernel)
theorem wd_438 : Cond.static yX6_far ∈ wU := wU_of (i := 753) (by decide +kernel) (by decide +kernel)
set_option maxRecDepth 20000 in
theorem wd_439 : Cond.code yX6_far cX6_far 4 (some .int) ∈ wU := wU_of (i := 754) rfl rfl
theorem wd_440 : Cond.methodLink RL 69 yX5_penChanges ∈ wU := wU_of (i := 417) (by decide +kernel) (by decide +kernel)
theorem wd_441 : Cond.instanceMethod yX5_penChanges ∈ wU := wU_of (i := 418) (by decide +kernel) (by decide +kernel)
theorem wd_442 : Cond.selects RX5 yX5_penChanges yX5_penChanges ∈ wU := wU_of (i := 419) (by decide +kernel) (by decide +kernel)
set_option maxRecDepth 20000 in
theorem wd_443 : Cond.code yX5_penChanges cX5_penChanges 1 (some .int) ∈ wU := wU_of (i := 420) rfl rfl
theorem wd_444 : Cond.methodLink RX5 116 yX1_countPenChanges ∈ wU := wU_of (i := 421) (by decide +kernel) (by decide +kernel)
theorem wd_445 : Cond.instanceMethod yX1_countPenChanges ∈ wU := wU_of (i := 422) (by decide +kernel) (by decide +kernel)
theorem wd_446 : Cond.selects RX1 yX1_countPenChanges yX1_countPenChanges ∈ wU := wU_of (i := 423) (by decide +kernel) (by decide +kernel)
set_option maxRecDepth 20000 in
theorem wd_447 : Cond.code yX1_countPenChanges cX1_countPenChanges 4 (some .int) ∈ wU := wU_of (i := 424) rfl rfl
theorem wd_448 : Cond.methodLink RL 72 yX6_penChanges ∈ wU := wU_of (i := 755) (by decide +kernel) (by decide +kernel)
theorem wd_449 : Cond.instanceMethod yX6_penChanges ∈ wU := wU_of (i := 756) (by decide +kernel) (by decide +kernel)
theorem wd_450 : Cond.selects RX6 yX6_penChanges yX6_penChanges ∈ wU := wU_of (i := 757) (by decide +kernel) (by decide +kernel)
set_option maxRecDepth 20000 in
theorem wd_451 : Cond.code yX6_penChanges cX6_penChanges 3 (some .int) ∈ wU := wU_of (i := 758) rfl rfl
theorem wd_452 : Cond.methodLink RL 73 yX5_runCount ∈ wU := wU_of (i := 425) (by decide +kernel) (by decide +kernel)
theorem wd_453 : Cond.instanceMethod yX5_runCount ∈ wU := wU_of (i := 426) (by decide +kernel) (by decide +kernel)
theorem wd_454 : Cond.selects RX5 yX5_runCount yX5_runCount ∈ wU := wU_of (i := 427) (by decide +kernel) (by decide +kernel)
set_option maxRecDepth 20000 in
theorem wd_455 : Cond.code yX5_runCount cX5_runCount 1 (some .int) ∈ wU := wU_of (i := 428) rfl rfl
theorem wd_456 : Cond.methodLink RX5 119 yX1_countRuns ∈ wU := wU_of (i := 429) (by decide +kernel) (by decide +kernel)
theorem wd_457 : Cond.instanceMethod yX1_countRuns ∈ wU := wU_of (i := 430) (by decide +kernel) (by decide +kernel)
theorem wd_458 : Cond.selects RX1 yX1_countRuns yX1_countRuns ∈ wU := wU_of (i := 431) (by decide +kernel) (by decide +kernel)
set_option maxRecDepth 20000 in
theorem wd_459 : Cond.code yX1_countRuns cX1_countRuns 3 (some .int) ∈ wU := wU_of (i := 432) rfl rfl
theorem wd_460 : Cond.methodLink RX1 89 yX1_isLinkedToNext ∈ wU := wU_of (i := 433) (by decide +kernel) (by decide +kernel)
theorem wd_461 : Cond.instanceMethod yX1_isLinkedToNext ∈ wU := wU_of (i := 434) (by decide +kernel) (by decide +kernel)
theorem wd_462 : Cond.selects RX1 yX1_isLinkedToNext yX1_isLinkedToNext ∈ wU := wU_of (i := 435) (by decide +kernel) (by decide +kernel)
set_option maxRecDepth 20000 in
theorem wd_463 : Cond.code yX1_isLinkedToNext cX1_isLinkedToNext 4 (some .boolean) ∈ wU := wU_of (i := 436) rfl rfl
theorem wd_464 : Cond.methodLink RL 76 yX6_runCount ∈ wU := wU_of (i := 759) (by decide +kernel) (by decide +kernel)
theorem wd_465 : Cond.instanceMethod yX6_runCount ∈ wU := wU_of (i := 760) (by decide +kernel) (by decide +kernel)
theorem wd_466 : Cond.selects RX6 yX6_runCount yX6_runCount ∈ wU := wU_of (i := 761) (by decide +kernel) (by decide +kernel)
set_option maxRecDepth 20000 in
theorem wd_467 : Cond.code yX6_runCount cX6_runCount 3 (some .int) ∈ wU := wU_of (i := 762) rfl rfl
theorem wd_468 : Cond.methodLink RX6 101 yX6_isLinked ∈ wU := wU_of (i := 763) (by decide +kernel) (by decide +kernel)
theorem wd_469 : Cond.instanceMethod yX6_isLinked ∈ wU := wU_of (i := 765) (by decide +kernel) (by decide +kernel)
theorem wd_470 : Cond.selects RX6 yX6_isLinked yX6_isLinked ∈ wU := wU_of (i := 39) (by decide +kernel) (by decide +kernel)
set_option maxRecDepth 20000 in
theorem wd_471 : Cond.code yX6_isLinked cX6_isLinked 4 (some .boolean) ∈ wU := wU_of (i := 766) rfl rfl
theorem wd_472 : Cond.methodLink RL 77 yX5_runLength ∈ wU := wU_of (i := 437) (by decide +kernel) (by decide +kernel)
theorem wd_473 : Cond.instanceMethod yX5_runLength ∈ wU := wU_of (i := 438) (by decide +kernel) (by decide +kernel)
theorem wd_474 : Cond.selects RX5 yX5_runLength yX5_runLength ∈ wU := wU_of (i := 439) (by decide +kernel) (by decide +kernel)
set_option maxRecDepth 20000 in
theorem wd_475 : Cond.code yX5_runLength cX5_runLength 3 (some .int) ∈ wU := wU_of (i := 440) rfl rfl
theorem wd_476 : Cond.methodLink RX5 122 yX1_lengthOfRun ∈ wU := wU_of (i := 441) (by decide +kernel) (by decide +kernel)
theorem wd_477 : Cond.instanceMethod yX1_lengthOfRun ∈ wU := wU_of (i := 442) (by decide +kernel) (by decide +kernel)
theorem wd_478 : Cond.selects RX1 yX1_lengthOfRun yX1_lengthOfRun ∈ wU := wU_of (i := 443) (by decide +kernel) (by decide +kernel)
set_option maxRecDepth 20000 in
theorem wd_479 : Cond.code yX1_lengthOfRun cX1_lengthOfRun 5 (some .int) ∈ wU := wU_of (i := 444) rfl rfl
theorem wd_480 : Cond.methodLink RL 80 yX6_runLength ∈ wU := wU_of (i := 767) (by decide +kernel) (by decide +kernel)
theorem wd_481 : Cond.instanceMethod yX6_runLength ∈ wU := wU_of (i := 768) (by decide +kernel) (by decide +kernel)
theorem wd_482 : Cond.selects RX6 yX6_runLength yX6_runLength ∈ wU := wU_of (i := 769) (by decide +kernel) (by decide +kernel)
set_option maxRecDepth 20000 in
theorem wd_483 : Cond.code yX6_runLength cX6_runLength 5 (some .int) ∈ wU := wU_of (i := 770) rfl rfl
theorem wd_484 : Cond.methodLink RL 81 yX5_setPenCost ∈ wU := wU_of (i := 445) (by decide +kernel) (by decide +kernel)
theorem wd_485 : Cond.instanceMethod yX5_setPenCost ∈ wU := wU_of (i := 446) (by decide +kernel) (by decide +kernel)
theorem wd_486 : Cond.selects RX5 yX5_setPenCost yX5_setPenCost ∈ wU := wU_of (i := 447) (by decide +kernel) (by decide +kernel)
set_option maxRecDepth 20000 in
theorem wd_487 : Cond.code yX5_setPenCost cX5_setPenCost 3 (some .int) ∈ wU := wU_of (i := 448) rfl rfl
theorem wd_488 : Cond.methodLink RL 84 yX6_setPenCost ∈ wU := wU_of (i := 771) (by decide +kernel) (by decide +kernel)
theorem wd_489 : Cond.instanceMethod yX6_setPenCost ∈ wU := wU_of (i := 772) (by decide +kernel) (by decide +kernel)
theorem wd_490 : Cond.selects RX6 yX6_setPenCost yX6_setPenCost ∈ wU := wU_of (i := 773) (by decide +kernel) (by decide +kernel)
set_option maxRecDepth 20000 in
theorem wd_491 : Cond.code yX6_setPenCost cX6_setPenCost 3 (some .int) ∈ wU := wU_of (i := 774) rfl rfl
theorem wd_492 : Cond.methodLink RL 85 yX5_bestCost ∈ wU := wU_of (i := 449) (by decide +kernel) (by decide +kernel)
theorem wd_493 : Cond.instanceMethod yX5_bestCost ∈ wU := wU_of (i := 450) (by decide +kernel) (by decide +kernel)
theorem wd_494 : Cond.selects RX5 yX5_bestCost yX5_bestCost ∈ wU := wU_of (i := 451) (by decide +kernel) (by decide +kernel)
set_option maxRecDepth 20000 in
theorem wd_495 : Cond.code yX5_bestCost cX5_bestCost 1 (some .int) ∈ wU := wU_of (i := 452) rfl rfl
theorem wd_496 : Cond.methodLink RX5 132 yX0_find ∈ wU := wU_of (i := 453) (by decide +kernel) (by decide +kernel)
theorem wd_497 : Cond.instanceMethod yX0_find ∈ wU := wU_of (i := 454) (by decide +kernel) (by decide +kernel)
theorem wd_498 : Cond.selects RX0 yX0_find yX0_find ∈ wU := wU_of (i := 455) (by decide +kernel) (by decide +kernel)
set_option maxRecDepth 20000 in
theorem wd_499 : Cond.code yX0_find cX0_find 4 none ∈ wU := wU_of (i := 456) rfl rfl
theorem wd_500 : Cond.methodLink RX0 39 Lib.Math.min.name ∈ wU := wU_of (i := 458) (by decide +kernel) (by decide +kernel)
theorem wd_501 : Cond.fieldLink RX0 45 "PlotterPlanner$BestPlan" "codeCount" "I" ∈ wU := wU_of (i := 117) (by decide +kernel) (by decide +kernel)
theorem wd_502 : Cond.methodLink RX0 33 yX1_size ∈ wU := wU_of (i := 457) (by decide +kernel) (by decide +kernel)
theorem wd_503 : Cond.methodLink RX0 48 yX0_fillSteps ∈ wU := wU_of (i := 459) (by decide +kernel) (by decide +kernel)
theorem wd_504 : Cond.instanceMethod yX0_fillSteps ∈ wU := wU_of (i := 461) (by decide +kernel) (by decide +kernel)
theorem wd_505 : Cond.selects RX0 yX0_fillSteps yX0_fillSteps ∈ wU := wU_of (i := 18) (by decide +kernel) (by decide +kernel)
set_option maxRecDepth 20000 in
theorem wd_506 : Cond.code yX0_fillSteps cX0_fillSteps 5 none ∈ wU := wU_of (i := 462) rfl rfl
theorem wd_507 : Cond.methodLink RX0 59 yX1_stepCost ∈ wU := wU_of (i := 463) (by decide +kernel) (by decide +kernel)
theorem wd_508 : Cond.methodLink RX0 52 yX0_fillRests ∈ wU := wU_of (i := 464) (by decide +kernel) (by decide +kernel)
theorem wd_509 : Cond.instanceMethod yX0_fillRests ∈ wU := wU_of (i := 466) (by decide +kernel) (by decide +kernel)
theorem wd_510 : Cond.selects RX0 yX0_fillRests yX0_fillRests ∈ wU := wU_of (i := 19) (by decide +kernel) (by decide +kernel)
set_option maxRecDepth 20000 in
theorem wd_511 : Cond.code yX0_fillRests cX0_fillRests 6 none ∈ wU := wU_of (i := 467) rfl rfl
theorem wd_512 : Cond.methodLink RX0 63 yX0_contains ∈ wU := wU_of (i := 468) (by decide +kernel) (by decide +kernel)
theorem wd_513 : Cond.static yX0_contains ∈ wU := wU_of (i := 469) (by decide +kernel) (by decide +kernel)
set_option maxRecDepth 20000 in
theorem wd_514 : Cond.code yX0_contains cX0_contains 2 (some .boolean) ∈ wU := wU_of (i := 470) rfl rfl
theorem wd_515 : Cond.methodLink RX0 67 yX0_cheapestNext ∈ wU := wU_of (i := 471) (by decide +kernel) (by decide +kernel)
theorem wd_516 : Cond.instanceMethod yX0_cheapestNext ∈ wU := wU_of (i := 473) (by decide +kernel) (by decide +kernel)
theorem wd_517 : Cond.selects RX0 yX0_cheapestNext yX0_cheapestNext ∈ wU := wU_of (i := 20) (by decide +kernel) (by decide +kernel)
set_option maxRecDepth 20000 in
theorem wd_518 : Cond.code yX0_cheapestNext cX0_cheapestNext 7 (some .int) ∈ wU := wU_of (i := 474) rfl rfl
theorem wd_519 : Cond.methodLink RX0 70 yX0_costThrough ∈ wU := wU_of (i := 475) (by decide +kernel) (by decide +kernel)
theorem wd_520 : Cond.instanceMethod yX0_costThrough ∈ wU := wU_of (i := 477) (by decide +kernel) (by decide +kernel)
theorem wd_521 : Cond.selects RX0 yX0_costThrough yX0_costThrough ∈ wU := wU_of (i := 21) (by decide +kernel) (by decide +kernel)
set_option maxRecDepth 20000 in
theorem wd_522 : Cond.code yX0_costThrough cX0_costThrough 4 (some .int) ∈ wU := wU_of (i := 478) rfl rfl
theorem wd_523 : Cond.methodLink RX0 73 yX0_stepAt ∈ wU := wU_of (i := 479) (by decide +kernel) (by decide +kernel)
theorem wd_524 : Cond.instanceMethod yX0_stepAt ∈ wU := wU_of (i := 481) (by decide +kernel) (by decide +kernel)
theorem wd_525 : Cond.selects RX0 yX0_stepAt yX0_stepAt ∈ wU := wU_of (i := 22) (by decide +kernel) (by decide +kernel)
set_option maxRecDepth 20000 in
theorem wd_526 : Cond.code yX0_stepAt cX0_stepAt 4 (some .int) ∈ wU := wU_of (i := 482) rfl rfl
theorem wd_527 : Cond.methodLink RX0 76 yX0_without ∈ wU := wU_of (i := 483) (by decide +kernel) (by decide +kernel)
theorem wd_528 : Cond.static yX0_without ∈ wU := wU_of (i := 484) (by decide +kernel) (by decide +kernel)
set_option maxRecDepth 20000 in
theorem wd_529 : Cond.code yX0_without cX0_without 2 (some .int) ∈ wU := wU_of (i := 485) rfl rfl
theorem wd_530 : Cond.methodLink RX0 79 yX0_restAt ∈ wU := wU_of (i := 486) (by decide +kernel) (by decide +kernel)
theorem wd_531 : Cond.instanceMethod yX0_restAt ∈ wU := wU_of (i := 488) (by decide +kernel) (by decide +kernel)
theorem wd_532 : Cond.selects RX0 yX0_restAt yX0_restAt ∈ wU := wU_of (i := 23) (by decide +kernel) (by decide +kernel)
set_option maxRecDepth 20000 in
theorem wd_533 : Cond.code yX0_restAt cX0_restAt 4 (some .int) ∈ wU := wU_of (i := 489) rfl rfl
theorem wd_534 : Cond.methodLink RX0 56 yX0_follow ∈ wU := wU_of (i := 490) (by decide +kernel) (by decide +kernel)
theorem wd_535 : Cond.instanceMethod yX0_follow ∈ wU := wU_of (i := 492) (by decide +kernel) (by decide +kernel)
theorem wd_536 : Cond.selects RX0 yX0_follow yX0_follow ∈ wU := wU_of (i := 24) (by decide +kernel) (by decide +kernel)
set_option maxRecDepth 20000 in
theorem wd_537 : Cond.code yX0_follow cX0_follow 6 none ∈ wU := wU_of (i := 493) rfl rfl
theorem wd_538 : Cond.fieldLink RX0 25 "PlotterPlanner$BestPlan" "total" "I" ∈ wU := wU_of (i := 118) (by decide +kernel) (by decide +kernel)
theorem wd_539 : Cond.methodLink RX5 136 yX0_total ∈ wU := wU_of (i := 494) (by decide +kernel) (by decide +kernel)
theorem wd_540 : Cond.instanceMethod yX0_total ∈ wU := wU_of (i := 495) (by decide +kernel) (by decide +kernel)
theorem wd_541 : Cond.selects RX0 yX0_total yX0_total ∈ wU := wU_of (i := 496) (by decide +kernel) (by decide +kernel)
set_option maxRecDepth 20000 in
theorem wd_542 : Cond.code yX0_total cX0_total 1 (some .int) ∈ wU := wU_of (i := 497) rfl rfl
theorem wd_543 : Cond.methodLink RL 88 yX6_bestCost ∈ wU := wU_of (i := 775) (by decide +kernel) (by decide +kernel)
theorem wd_544 : Cond.instanceMethod yX6_bestCost ∈ wU := wU_of (i := 776) (by decide +kernel) (by decide +kernel)
theorem wd_545 : Cond.selects RX6 yX6_bestCost yX6_bestCost ∈ wU := wU_of (i := 777) (by decide +kernel) (by decide +kernel)
set_option maxRecDepth 20000 in
theorem wd_546 : Cond.code yX6_bestCost cX6_bestCost 1 (some .int) ∈ wU := wU_of (i := 778) rfl rfl
theorem wd_547 : Cond.methodLink RX6 108 yX6_finds ∈ wU := wU_of (i := 779) (by decide +kernel) (by decide +kernel)
theorem wd_548 : Cond.instanceMethod yX6_finds ∈ wU := wU_of (i := 781) (by decide +kernel) (by decide +kernel)
theorem wd_549 : Cond.selects RX6 yX6_finds yX6_finds ∈ wU := wU_of (i := 40) (by decide +kernel) (by decide +kernel)
set_option maxRecDepth 20000 in
theorem wd_550 : Cond.code yX6_finds cX6_finds 7 (some .int) ∈ wU := wU_of (i := 782) rfl rfl
theorem wd_551 : Cond.methodLink RX6 105 yX6_ahead ∈ wU := wU_of (i := 783) (by decide +kernel) (by decide +kernel)
theorem wd_552 : Cond.instanceMethod yX6_ahead ∈ wU := wU_of (i := 785) (by decide +kernel) (by decide +kernel)
theorem wd_553 : Cond.selects RX6 yX6_ahead yX6_ahead ∈ wU := wU_of (i := 41) (by decide +kernel) (by decide +kernel)
set_option maxRecDepth 20000 in
theorem wd_554 : Cond.code yX6_ahead cX6_ahead 6 (some .int) ∈ wU := wU_of (i := 786) rfl rfl
theorem wd_555 : Cond.constant RX6 104 (1000000) ∈ wU := wU_of (i := 787) (by decide +kernel) (by decide +kernel)
theorem wd_556 : Cond.methodLink RL 89 yX5_bestAt ∈ wU := wU_of (i := 498) (by decide +kernel) (by decide +kernel)
theorem wd_557 : Cond.instanceMethod yX5_bestAt ∈ wU := wU_of (i := 499) (by decide +kernel) (by decide +kernel)
theorem wd_558 : Cond.selects RX5 yX5_bestAt yX5_bestAt ∈ wU := wU_of (i := 500) (by decide +kernel) (by decide +kernel)
set_option maxRecDepth 20000 in
theorem wd_559 : Cond.code yX5_bestAt cX5_bestAt 2 (some .int) ∈ wU := wU_of (i := 501) rfl rfl
theorem wd_560 : Cond.methodLink RX5 139 yX0_codeAt ∈ wU := wU_of (i := 502) (by decide +kernel) (by decide +kernel)
theorem wd_561 : Cond.instanceMethod yX0_codeAt ∈ wU := wU_of (i := 503) (by decide +kernel) (by decide +kernel)
theorem wd_562 : Cond.selects RX0 yX0_codeAt yX0_codeAt ∈ wU := wU_of (i := 504) (by decide +kernel) (by decide +kernel)
set_option maxRecDepth 20000 in
theorem wd_563 : Cond.code yX0_codeAt cX0_codeAt 2 (some .int) ∈ wU := wU_of (i := 505) rfl rfl
theorem wd_564 : Cond.methodLink RL 92 yX6_bestAt ∈ wU := wU_of (i := 788) (by decide +kernel) (by decide +kernel)
theorem wd_565 : Cond.instanceMethod yX6_bestAt ∈ wU := wU_of (i := 789) (by decide +kernel) (by decide +kernel)
theorem wd_566 : Cond.selects RX6 yX6_bestAt yX6_bestAt ∈ wU := wU_of (i := 790) (by decide +kernel) (by decide +kernel)
set_option maxRecDepth 20000 in
theorem wd_567 : Cond.code yX6_bestAt cX6_bestAt 2 (some .int) ∈ wU := wU_of (i := 791) rfl rfl
theorem wd_568 : Cond.methodLink RL 93 yX5_adoptBest ∈ wU := wU_of (i := 507) (by decide +kernel) (by decide +kernel)
theorem wd_569 : Cond.instanceMethod yX5_adoptBest ∈ wU := wU_of (i := 508) (by decide +kernel) (by decide +kernel)
theorem wd_570 : Cond.selects RX5 yX5_adoptBest yX5_adoptBest ∈ wU := wU_of (i := 509) (by decide +kernel) (by decide +kernel)
set_option maxRecDepth 20000 in
theorem wd_571 : Cond.code yX5_adoptBest cX5_adoptBest 2 (some .int) ∈ wU := wU_of (i := 510) rfl rfl
theorem wd_572 : Cond.methodLink RX5 140 yX1_setCode ∈ wU := wU_of (i := 511) (by decide +kernel) (by decide +kernel)
theorem wd_573 : Cond.instanceMethod yX1_setCode ∈ wU := wU_of (i := 512) (by decide +kernel) (by decide +kernel)
theorem wd_574 : Cond.selects RX1 yX1_setCode yX1_setCode ∈ wU := wU_of (i := 513) (by decide +kernel) (by decide +kernel)
set_option maxRecDepth 20000 in
theorem wd_575 : Cond.code yX1_setCode cX1_setCode 3 none ∈ wU := wU_of (i := 514) rfl rfl
theorem wd_576 : Cond.methodLink RL 96 yX6_adoptBest ∈ wU := wU_of (i := 792) (by decide +kernel) (by decide +kernel)
theorem wd_577 : Cond.instanceMethod yX6_adoptBest ∈ wU := wU_of (i := 793) (by decide +kernel) (by decide +kernel)
theorem wd_578 : Cond.selects RX6 yX6_adoptBest yX6_adoptBest ∈ wU := wU_of (i := 794) (by decide +kernel) (by decide +kernel)
set_option maxRecDepth 20000 in
theorem wd_579 : Cond.code yX6_adoptBest cX6_adoptBest 3 (some .int) ∈ wU := wU_of (i := 795) rfl rfl
theorem wd_580 : Cond.methodLink RL 97 yX5_adoptNearest ∈ wU := wU_of (i := 515) (by decide +kernel) (by decide +kernel)
theorem wd_581 : Cond.instanceMethod yX5_adoptNearest ∈ wU := wU_of (i := 516) (by decide +kernel) (by decide +kernel)
theorem wd_582 : Cond.selects RX5 yX5_adoptNearest yX5_adoptNearest ∈ wU := wU_of (i := 517) (by decide +kernel) (by decide +kernel)
set_option maxRecDepth 20000 in
theorem wd_583 : Cond.code yX5_adoptNearest cX5_adoptNearest 1 (some .int) ∈ wU := wU_of (i := 518) rfl rfl
theorem wd_584 : Cond.methodLink RX5 143 yX1_orderByNearest ∈ wU := wU_of (i := 519) (by decide +kernel) (by decide +kernel)
theorem wd_585 : Cond.instanceMethod yX1_orderByNearest ∈ wU := wU_of (i := 520) (by decide +kernel) (by decide +kernel)
theorem wd_586 : Cond.selects RX1 yX1_orderByNearest yX1_orderByNearest ∈ wU := wU_of (i := 521) (by decide +kernel) (by decide +kernel)
set_option maxRecDepth 20000 in
theorem wd_587 : Cond.code yX1_orderByNearest cX1_orderByNearest 5 none ∈ wU := wU_of (i := 522) rfl rfl
theorem wd_588 : Cond.methodLink RX1 55 yX1_nearestCode ∈ wU := wU_of (i := 523) (by decide +kernel) (by decide +kernel)
theorem wd_589 : Cond.instanceMethod yX1_nearestCode ∈ wU := wU_of (i := 525) (by decide +kernel) (by decide +kernel)
theorem wd_590 : Cond.selects RX1 yX1_nearestCode yX1_nearestCode ∈ wU := wU_of (i := 25) (by decide +kernel) (by decide +kernel)
set_option maxRecDepth 20000 in
theorem wd_591 : Cond.code yX1_nearestCode cX1_nearestCode 8 (some .int) ∈ wU := wU_of (i := 526) rfl rfl
theorem wd_592 : Cond.methodLink RX1 59 yX1_setCode ∈ wU := wU_of (i := 527) (by decide +kernel) (by decide +kernel)
theorem wd_593 : Cond.methodLink RL 100 yX6_adoptNearest ∈ wU := wU_of (i := 796) (by decide +kernel) (by decide +kernel)
theorem wd_594 : Cond.instanceMethod yX6_adoptNearest ∈ wU := wU_of (i := 797) (by decide +kernel) (by decide +kernel)
theorem wd_595 : Cond.selects RX6 yX6_adoptNearest yX6_adoptNearest ∈ wU := wU_of (i := 798) (by decide +kernel) (by decide +kernel)
set_option maxRecDepth 20000 in
theorem wd_596 : Cond.code yX6_adoptNearest cX6_adoptNearest 8 (some .int) ∈ wU := wU_of (i := 799) rfl rfl
theorem wd_597 : Cond.methodLink RL 101 yX5_setSquareLimit ∈ wU := wU_of (i := 528) (by decide +kernel) (by decide +kernel)
theorem wd_598 : Cond.instanceMethod yX5_setSquareLimit ∈ wU := wU_of (i := 529) (by decide +kernel) (by decide +kernel)
theorem wd_599 : Cond.selects RX5 yX5_setSquareLimit yX5_setSquareLimit ∈ wU := wU_of (i := 530) (by decide +kernel) (by decide +kernel)
set_option maxRecDepth 20000 in
theorem wd_600 : Cond.code yX5_setSquareLimit cX5_setSquareLimit 3 (some .int) ∈ wU := wU_of (i := 531) rfl rfl
theorem wd_601 : Cond.methodLink RL 104 yX6_setSquareLimit ∈ wU := wU_of (i := 800) (by decide +kernel) (by decide +kernel)
theorem wd_602 : Cond.instanceMethod yX6_setSquareLimit ∈ wU := wU_of (i := 801) (by decide +kernel) (by decide +kernel)
theorem wd_603 : Cond.selects RX6 yX6_setSquareLimit yX6_setSquareLimit ∈ wU := wU_of (i := 802) (by decide +kernel) (by decide +kernel)
set_option maxRecDepth 20000 in
theorem wd_604 : Cond.code yX6_setSquareLimit cX6_setSquareLimit 3 (some .int) ∈ wU := wU_of (i := 803) rfl rfl
theorem wd_605 : Cond.methodLink RL 105 yX5_setAcceleration ∈ wU := wU_of (i := 532) (by decide +kernel) (by decide +kernel)
theorem wd_606 : Cond.instanceMethod yX5_setAcceleration ∈ wU := wU_of (i := 533) (by decide +kernel) (by decide +kernel)
theorem wd_607 : Cond.selects RX5 yX5_setAcceleration yX5_setAcceleration ∈ wU := wU_of (i := 534) (by decide +kernel) (by decide +kernel)
set_option maxRecDepth 20000 in
theorem wd_608 : Cond.code yX5_setAcceleration cX5_setAcceleration 3 (some .int) ∈ wU := wU_of (i := 535) rfl rfl
theorem wd_609 : Cond.methodLink RL 108 yX6_setAcceleration ∈ wU := wU_of (i := 804) (by decide +kernel) (by decide +kernel)
theorem wd_610 : Cond.instanceMethod yX6_setAcceleration ∈ wU := wU_of (i := 805) (by decide +kernel) (by decide +kernel)
theorem wd_611 : Cond.selects RX6 yX6_setAcceleration yX6_setAcceleration ∈ wU := wU_of (i := 806) (by decide +kernel) (by decide +kernel)
set_option maxRecDepth 20000 in
theorem wd_612 : Cond.code yX6_setAcceleration cX6_setAcceleration 3 (some .int) ∈ wU := wU_of (i := 807) rfl rfl
theorem wd_613 : Cond.methodLink RL 109 yX5_cornerLimit ∈ wU := wU_of (i := 536) (by decide +kernel) (by decide +kernel)
theorem wd_614 : Cond.instanceMethod yX5_cornerLimit ∈ wU := wU_of (i := 537) (by decide +kernel) (by decide +kernel)
theorem wd_615 : Cond.selects RX5 yX5_cornerLimit yX5_cornerLimit ∈ wU := wU_of (i := 538) (by decide +kernel) (by decide +kernel)
set_option maxRecDepth 20000 in
theorem wd_616 : Cond.code yX5_cornerLimit cX5_cornerLimit 2 (some .int) ∈ wU := wU_of (i := 539) rfl rfl
theorem wd_617 : Cond.methodLink RX5 146 yX1_isLinkedToNext ∈ wU := wU_of (i := 540) (by decide +kernel) (by decide +kernel)
theorem wd_618 : Cond.methodLink RX5 149 yX1_cornerSquare ∈ wU := wU_of (i := 541) (by decide +kernel) (by decide +kernel)
theorem wd_619 : Cond.instanceMethod yX1_cornerSquare ∈ wU := wU_of (i := 542) (by decide +kernel) (by decide +kernel)
theorem wd_620 : Cond.selects RX1 yX1_cornerSquare yX1_cornerSquare ∈ wU := wU_of (i := 543) (by decide +kernel) (by decide +kernel)
set_option maxRecDepth 20000 in
theorem wd_621 : Cond.code yX1_cornerSquare cX1_cornerSquare 9 (some .int) ∈ wU := wU_of (i := 544) rfl rfl
theorem wd_622 : Cond.methodLink RX1 120 yX1_codeAt ∈ wU := wU_of (i := 545) (by decide +kernel) (by decide +kernel)
theorem wd_623 : Cond.methodLink RL 112 yX6_cornerLimit ∈ wU := wU_of (i := 808) (by decide +kernel) (by decide +kernel)
theorem wd_624 : Cond.instanceMethod yX6_cornerLimit ∈ wU := wU_of (i := 809) (by decide +kernel) (by decide +kernel)
theorem wd_625 : Cond.selects RX6 yX6_cornerLimit yX6_cornerLimit ∈ wU := wU_of (i := 810) (by decide +kernel) (by decide +kernel)
set_option maxRecDepth 20000 in
theorem wd_626 : Cond.code yX6_cornerLimit cX6_cornerLimit 2 (some .int) ∈ wU := wU_of (i := 811) rfl rfl
theorem wd_627 : Cond.methodLink RX6 118 yX6_corner ∈ wU := wU_of (i := 812) (by decide +kernel) (by decide +kernel)
theorem wd_628 : Cond.instanceMethod yX6_corner ∈ wU := wU_of (i := 814) (by decide +kernel) (by decide +kernel)
theorem wd_629 : Cond.selects RX6 yX6_corner yX6_corner ∈ wU := wU_of (i := 42) (by decide +kernel) (by decide +kernel)
set_option maxRecDepth 20000 in
theorem wd_630 : Cond.code yX6_corner cX6_corner 4 (some .int) ∈ wU := wU_of (i := 815) rfl rfl
theorem wd_631 : Cond.methodLink RX6 112 yX6_dx ∈ wU := wU_of (i := 816) (by decide +kernel) (by decide +kernel)
theorem wd_632 : Cond.instanceMethod yX6_dx ∈ wU := wU_of (i := 818) (by decide +kernel) (by decide +kernel)
theorem wd_633 : Cond.selects RX6 yX6_dx yX6_dx ∈ wU := wU_of (i := 43) (by decide +kernel) (by decide +kernel)
set_option maxRecDepth 20000 in
theorem wd_634 : Cond.code yX6_dx cX6_dx 2 (some .int) ∈ wU := wU_of (i := 819) rfl rfl
theorem wd_635 : Cond.methodLink RX6 115 yX6_dy ∈ wU := wU_of (i := 820) (by decide +kernel) (by decide +kernel)
theorem wd_636 : Cond.instanceMethod yX6_dy ∈ wU := wU_of (i := 822) (by decide +kernel) (by decide +kernel)
theorem wd_637 : Cond.selects RX6 yX6_dy yX6_dy ∈ wU := wU_of (i := 44) (by decide +kernel) (by decide +kernel)
set_option maxRecDepth 20000 in
theorem wd_638 : Cond.code yX6_dy cX6_dy 2 (some .int) ∈ wU := wU_of (i := 823) rfl rfl
theorem wd_639 : Cond.methodLink RL 113 yX5_endSquare ∈ wU := wU_of (i := 546) (by decide +kernel) (by decide +kernel)
theorem wd_640 : Cond.instanceMethod yX5_endSquare ∈ wU := wU_of (i := 547) (by decide +kernel) (by decide +kernel)
theorem wd_641 : Cond.selects RX5 yX5_endSquare yX5_endSquare ∈ wU := wU_of (i := 548) (by decide +kernel) (by decide +kernel)
set_option maxRecDepth 20000 in
theorem wd_642 : Cond.code yX5_endSquare cX5_endSquare 2 (some .int) ∈ wU := wU_of (i := 549) rfl rfl
theorem wd_643 : Cond.methodLink RX5 153 yX4_compute ∈ wU := wU_of (i := 550) (by decide +kernel) (by decide +kernel)
theorem wd_644 : Cond.instanceMethod yX4_compute ∈ wU := wU_of (i := 551) (by decide +kernel) (by decide +kernel)
theorem wd_645 : Cond.selects RX4 yX4_compute yX4_compute ∈ wU := wU_of (i := 552) (by decide +kernel) (by decide +kernel)
set_option maxRecDepth 20000 in
theorem wd_646 : Cond.code yX4_compute cX4_compute 8 none ∈ wU := wU_of (i := 553) rfl rfl
theorem wd_647 : Cond.methodLink RX4 21 Lib.Math.min.name ∈ wU := wU_of (i := 555) (by decide +kernel) (by decide +kernel)
theorem wd_648 : Cond.methodLink RX4 15 yX1_size ∈ wU := wU_of (i := 554) (by decide +kernel) (by decide +kernel)
theorem wd_649 : Cond.methodLink RX4 27 yX1_isLinkedToNext ∈ wU := wU_of (i := 556) (by decide +kernel) (by decide +kernel)
theorem wd_650 : Cond.methodLink RX4 31 yX4_beginAt ∈ wU := wU_of (i := 557) (by decide +kernel) (by decide +kernel)
theorem wd_651 : Cond.instanceMethod yX4_beginAt ∈ wU := wU_of (i := 558) (by decide +kernel) (by decide +kernel)
theorem wd_652 : Cond.selects RX4 yX4_beginAt yX4_beginAt ∈ wU := wU_of (i := 559) (by decide +kernel) (by decide +kernel)
set_option maxRecDepth 20000 in
theorem wd_653 : Cond.code yX4_beginAt cX4_beginAt 2 (some .int) ∈ wU := wU_of (i := 560) rfl rfl
theorem wd_654 : Cond.methodLink RX4 45 yX4_endAt ∈ wU := wU_of (i := 561) (by decide +kernel) (by decide +kernel)
theorem wd_655 : Cond.instanceMethod yX4_endAt ∈ wU := wU_of (i := 562) (by decide +kernel) (by decide +kernel)
theorem wd_656 : Cond.selects RX4 yX4_endAt yX4_endAt ∈ wU := wU_of (i := 563) (by decide +kernel) (by decide +kernel)
set_option maxRecDepth 20000 in
theorem wd_657 : Cond.code yX4_endAt cX4_endAt 2 (some .int) ∈ wU := wU_of (i := 564) rfl rfl
theorem wd_658 : Cond.methodLink RX4 35 yX1_lengthAt ∈ wU := wU_of (i := 566) (by decide +kernel) (by decide +kernel)
theorem wd_659 : Cond.instanceMethod yX1_lengthAt ∈ wU := wU_of (i := 567) (by decide +kernel) (by decide +kernel)
theorem wd_660 : Cond.selects RX1 yX1_lengthAt yX1_lengthAt ∈ wU := wU_of (i := 568) (by decide +kernel) (by decide +kernel)
set_option maxRecDepth 20000 in
theorem wd_661 : Cond.code yX1_lengthAt cX1_lengthAt 3 (some .int) ∈ wU := wU_of (i := 569) rfl rfl
theorem wd_662 : Cond.methodLink RX4 38 yX1_cornerSquare ∈ wU := wU_of (i := 570) (by decide +kernel) (by decide +kernel)
theorem wd_663 : Cond.methodLink RX5 157 yX4_endAt ∈ wU := wU_of (i := 571) (by decide +kernel) (by decide +kernel)
theorem wd_664 : Cond.methodLink RL 116 yX6_endSquare ∈ wU := wU_of (i := 824) (by decide +kernel) (by decide +kernel)
theorem wd_665 : Cond.instanceMethod yX6_endSquare ∈ wU := wU_of (i := 825) (by decide +kernel) (by decide +kernel)
theorem wd_666 : Cond.selects RX6 yX6_endSquare yX6_endSquare ∈ wU := wU_of (i := 826) (by decide +kernel) (by decide +kernel)
set_option maxRecDepth 20000 in
theorem wd_667 : Cond.code yX6_endSquare cX6_endSquare 2 (some .int) ∈ wU := wU_of (i := 827) rfl rfl
theorem wd_668 : Cond.methodLink RX6 127 yX6_speeds ∈ wU := wU_of (i := 828) (by decide +kernel) (by decide +kernel)
theorem wd_669 : Cond.instanceMethod yX6_speeds ∈ wU := wU_of (i := 830) (by decide +kernel) (by decide +kernel)
theorem wd_670 : Cond.selects RX6 yX6_speeds yX6_speeds ∈ wU := wU_of (i := 45) (by decide +kernel) (by decide +kernel)
set_option maxRecDepth 20000 in
theorem wd_671 : Cond.code yX6_speeds cX6_speeds 4 none ∈ wU := wU_of (i := 831) rfl rfl
theorem wd_672 : Cond.methodLink RX6 121 yX6_before ∈ wU := wU_of (i := 832) (by decide +kernel) (by decide +kernel)
theorem wd_673 : Cond.instanceMethod yX6_before ∈ wU := wU_of (i := 834) (by decide +kernel) (by decide +kernel)
theorem wd_674 : Cond.selects RX6 yX6_before yX6_before ∈ wU := wU_of (i := 46) (by decide +kernel) (by decide +kernel)
set_option maxRecDepth 20000 in
theorem wd_675 : Cond.code yX6_before cX6_before 2 (some .int) ∈ wU := wU_of (i := 835) rfl rfl
theorem wd_676 : Cond.methodLink RX6 124 yX6_gain ∈ wU := wU_of (i := 836) (by decide +kernel) (by decide +kernel)
theorem wd_677 : Cond.instanceMethod yX6_gain ∈ wU := wU_of (i := 838) (by decide +kernel) (by decide +kernel)
theorem wd_678 : Cond.selects RX6 yX6_gain yX6_gain ∈ wU := wU_of (i := 47) (by decide +kernel) (by decide +kernel)
set_option maxRecDepth 20000 in
theorem wd_679 : Cond.code yX6_gain cX6_gain 2 (some .int) ∈ wU := wU_of (i := 839) rfl rfl
theorem wd_680 : Cond.methodLink RL 117 yX5_peakSquare ∈ wU := wU_of (i := 572) (by decide +kernel) (by decide +kernel)
theorem wd_681 : Cond.instanceMethod yX5_peakSquare ∈ wU := wU_of (i := 573) (by decide +kernel) (by decide +kernel)
theorem wd_682 : Cond.selects RX5 yX5_peakSquare yX5_peakSquare ∈ wU := wU_of (i := 574) (by decide +kernel) (by decide +kernel)
set_option maxRecDepth 20000 in
theorem wd_683 : Cond.code yX5_peakSquare cX5_peakSquare 3 (some .int) ∈ wU := wU_of (i := 575) rfl rfl
theorem wd_684 : Cond.methodLink RX5 166 Lib.Math.min.name ∈ wU := wU_of (i := 578) (by decide +kernel) (by decide +kernel)
theorem wd_685 : Cond.methodLink RX5 160 yX4_beginAt ∈ wU := wU_of (i := 576) (by decide +kernel) (by decide +kernel)
theorem wd_686 : Cond.methodLink RX5 163 yX1_lengthAt ∈ wU := wU_of (i := 577) (by decide +kernel) (by decide +kernel)
theorem wd_687 : Cond.methodLink RL 120 yX6_peakSquare ∈ wU := wU_of (i := 840) (by decide +kernel) (by decide +kernel)
theorem wd_688 : Cond.instanceMethod yX6_peakSquare ∈ wU := wU_of (i := 841) (by decide +kernel) (by decide +kernel)
theorem wd_689 : Cond.selects RX6 yX6_peakSquare yX6_peakSquare ∈ wU := wU_of (i := 842) (by decide +kernel) (by decide +kernel)
set_option maxRecDepth 20000 in
theorem wd_690 : Cond.code yX6_peakSquare cX6_peakSquare 3 (some .int) ∈ wU := wU_of (i := 843) rfl rfl
theorem wd_691 : Cond.methodLink RL 121 yX5_undo ∈ wU := wU_of (i := 579) (by decide +kernel) (by decide +kernel)
theorem wd_692 : Cond.instanceMethod yX5_undo ∈ wU := wU_of (i := 580) (by decide +kernel) (by decide +kernel)
theorem wd_693 : Cond.selects RX5 yX5_undo yX5_undo ∈ wU := wU_of (i := 581) (by decide +kernel) (by decide +kernel)
set_option maxRecDepth 20000 in
theorem wd_694 : Cond.code yX5_undo cX5_undo 1 (some .int) ∈ wU := wU_of (i := 582) rfl rfl
theorem wd_695 : Cond.methodLink RX5 171 yX2_isEmpty ∈ wU := wU_of (i := 583) (by decide +kernel) (by decide +kernel)
theorem wd_696 : Cond.instanceMethod yX2_isEmpty ∈ wU := wU_of (i := 584) (by decide +kernel) (by decide +kernel)
theorem wd_697 : Cond.selects RX2 yX2_isEmpty yX2_isEmpty ∈ wU := wU_of (i := 585) (by decide +kernel) (by decide +kernel)
set_option maxRecDepth 20000 in
theorem wd_698 : Cond.code yX2_isEmpty cX2_isEmpty 1 (some .boolean) ∈ wU := wU_of (i := 586) rfl rfl
theorem wd_699 : Cond.methodLink RX5 175 yX2_restore ∈ wU := wU_of (i := 587) (by decide +kernel) (by decide +kernel)
theorem wd_700 : Cond.instanceMethod yX2_restore ∈ wU := wU_of (i := 588) (by decide +kernel) (by decide +kernel)
theorem wd_701 : Cond.selects RX2 yX2_restore yX2_restore ∈ wU := wU_of (i := 589) (by decide +kernel) (by decide +kernel)
set_option maxRecDepth 20000 in
theorem wd_702 : Cond.code yX2_restore cX2_restore 4 none ∈ wU := wU_of (i := 590) rfl rfl
theorem wd_703 : Cond.methodLink RX5 179 yX2_depth ∈ wU := wU_of (i := 591) (by decide +kernel) (by decide +kernel)
theorem wd_704 : Cond.instanceMethod yX2_depth ∈ wU := wU_of (i := 592) (by decide +kernel) (by decide +kernel)
theorem wd_705 : Cond.selects RX2 yX2_depth yX2_depth ∈ wU := wU_of (i := 593) (by decide +kernel) (by decide +kernel)
set_option maxRecDepth 20000 in
theorem wd_706 : Cond.code yX2_depth cX2_depth 1 (some .int) ∈ wU := wU_of (i := 594) rfl rfl
theorem wd_707 : Cond.methodLink RL 124 yX6_undo ∈ wU := wU_of (i := 632) (by decide +kernel) (by decide +kernel)
theorem wd_708 : Cond.instanceMethod yX6_undo ∈ wU := wU_of (i := 633) (by decide +kernel) (by decide +kernel)
theorem wd_709 : Cond.selects RX6 yX6_undo yX6_undo ∈ wU := wU_of (i := 634) (by decide +kernel) (by decide +kernel)
set_option maxRecDepth 20000 in
theorem wd_710 : Cond.code yX6_undo cX6_undo 2 (some .int) ∈ wU := wU_of (i := 635) rfl rfl
theorem iX0 : ∀ w ∈ wsX00, w ∈ wU := wU_ofd _ (by decide +kernel) (by decide +kernel)
theorem iX1 : ∀ w ∈ wsX10, w ∈ wU := wU_ofd _ (by decide +kernel) (by decide +kernel)
theorem iX2 : ∀ w ∈ wsX20, w ∈ wU := wU_ofd _ (by decide +kernel) (by decide +kernel)
theorem iX3 : ∀ w ∈ wsX30, w ∈ wU := wU_ofd _ (by decide +kernel) (by decide +kernel)
theorem iX4 : ∀ w ∈ wsX40, w ∈ wU := wU_ofd _ (by decide +kernel) (by decide +kernel)
theorem iX5 : ∀ w ∈ wsX50, w ∈ wU := wU_ofd _ (by decide +kernel) (by decide +kernel)
theorem iX6 : ∀ w ∈ wsX60, w ∈ wU := wU_ofd _ (by decide +kernel) (by decide +kernel)
