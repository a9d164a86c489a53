section
-- ===== PART A: goes FIRST, ahead of the names: the tables' words, and 'selects' of the private methods out of them =====
/-- a private method of a class that the tables say can be made, by its rows of tables_1 -/
def lw_okq (q : MethodName × Nat) : Prop := (q.1.cls ≠ "java/lang/invoke/MethodHandle" ∧ q.1.cls ≠ "java/lang/invoke/VarHandle") ∧ Cond.instantiable q.1.cls q.2 ∈ tables_1 ∧ Cond.privateMethod q.1 ∈ tables_1 ∧ Cond.instanceMethod q.1 ∈ tables_1
theorem lw_p0 : lw_okq (⟨"PlotterPlanner", "beginEdit", "()V"⟩, 8) := ⟨⟨by decide +kernel, by decide +kernel⟩, List.mem_of_getElem? (i := 11) (by decide +kernel), List.mem_of_getElem? (i := 148) (by decide +kernel), List.mem_of_getElem? (i := 149) (by decide +kernel)⟩
theorem lw_p1 : lw_okq (⟨"PlotterPlanner$History", "slotAt", "(I)LPlotterPlanner$Drawing;"⟩, 3) := ⟨⟨by decide +kernel, by decide +kernel⟩, List.mem_of_getElem? (i := 42) (by decide +kernel), List.mem_of_getElem? (i := 156) (by decide +kernel), List.mem_of_getElem? (i := 157) (by decide +kernel)⟩
theorem lw_p2 : lw_okq (⟨"PlotterPlanner$Drawing", "dropFromPlan", "(I)V"⟩, 5) := ⟨⟨by decide +kernel, by decide +kernel⟩, List.mem_of_getElem? (i := 19) (by decide +kernel), List.mem_of_getElem? (i := 191) (by decide +kernel), List.mem_of_getElem? (i := 192) (by decide +kernel)⟩
theorem lw_p3 : lw_okq (⟨"PlotterPlanner$Drawing", "areAlike", "(II)Z"⟩, 5) := ⟨⟨by decide +kernel, by decide +kernel⟩, List.mem_of_getElem? (i := 19) (by decide +kernel), List.mem_of_getElem? (i := 215) (by decide +kernel), List.mem_of_getElem? (i := 216) (by decide +kernel)⟩
theorem lw_p4 : lw_okq (⟨"PlotterPlanner$Drawing", "beginXOf", "(I)I"⟩, 5) := ⟨⟨by decide +kernel, by decide +kernel⟩, List.mem_of_getElem? (i := 19) (by decide +kernel), List.mem_of_getElem? (i := 224) (by decide +kernel), List.mem_of_getElem? (i := 225) (by decide +kernel)⟩
theorem lw_p5 : lw_okq (⟨"PlotterPlanner$Drawing", "hasCode", "(I)Z"⟩, 5) := ⟨⟨by decide +kernel, by decide +kernel⟩, List.mem_of_getElem? (i := 19) (by decide +kernel), List.mem_of_getElem? (i := 228) (by decide +kernel), List.mem_of_getElem? (i := 229) (by decide +kernel)⟩
theorem lw_p6 : lw_okq (⟨"PlotterPlanner$Drawing", "beginYOf", "(I)I"⟩, 5) := ⟨⟨by decide +kernel, by decide +kernel⟩, List.mem_of_getElem? (i := 19) (by decide +kernel), List.mem_of_getElem? (i := 232) (by decide +kernel), List.mem_of_getElem? (i := 233) (by decide +kernel)⟩
theorem lw_p7 : lw_okq (⟨"PlotterPlanner$Drawing", "covers", "(II)Z"⟩, 5) := ⟨⟨by decide +kernel, by decide +kernel⟩, List.mem_of_getElem? (i := 19) (by decide +kernel), List.mem_of_getElem? (i := 244) (by decide +kernel), List.mem_of_getElem? (i := 245) (by decide +kernel)⟩
theorem lw_p8 : lw_okq (⟨"PlotterPlanner$Drawing", "liesOn", "(II)Z"⟩, 5) := ⟨⟨by decide +kernel, by decide +kernel⟩, List.mem_of_getElem? (i := 19) (by decide +kernel), List.mem_of_getElem? (i := 248) (by decide +kernel), List.mem_of_getElem? (i := 249) (by decide +kernel)⟩
theorem lw_p9 : lw_okq (⟨"PlotterPlanner$Drawing", "endXOf", "(I)I"⟩, 5) := ⟨⟨by decide +kernel, by decide +kernel⟩, List.mem_of_getElem? (i := 19) (by decide +kernel), List.mem_of_getElem? (i := 252) (by decide +kernel), List.mem_of_getElem? (i := 253) (by decide +kernel)⟩
theorem lw_p10 : lw_okq (⟨"PlotterPlanner$Drawing", "endYOf", "(I)I"⟩, 5) := ⟨⟨by decide +kernel, by decide +kernel⟩, List.mem_of_getElem? (i := 19) (by decide +kernel), List.mem_of_getElem? (i := 256) (by decide +kernel), List.mem_of_getElem? (i := 257) (by decide +kernel)⟩
theorem lw_p11 : lw_okq (⟨"PlotterPlanner$RunGraph", "joinComponents", "(LPlotterPlanner$Drawing;II)V"⟩, 1) := ⟨⟨by decide +kernel, by decide +kernel⟩, List.mem_of_getElem? (i := 86) (by decide +kernel), List.mem_of_getElem? (i := 285) (by decide +kernel), List.mem_of_getElem? (i := 286) (by decide +kernel)⟩
theorem lw_p12 : lw_okq (⟨"PlotterPlanner$RunGraph", "rename", "(III)V"⟩, 1) := ⟨⟨by decide +kernel, by decide +kernel⟩, List.mem_of_getElem? (i := 86) (by decide +kernel), List.mem_of_getElem? (i := 294) (by decide +kernel), List.mem_of_getElem? (i := 295) (by decide +kernel)⟩
theorem lw_p13 : lw_okq (⟨"PlotterPlanner$RunGraph", "countOddVertices", "(LPlotterPlanner$Drawing;II)I"⟩, 1) := ⟨⟨by decide +kernel, by decide +kernel⟩, List.mem_of_getElem? (i := 86) (by decide +kernel), List.mem_of_getElem? (i := 298) (by decide +kernel), List.mem_of_getElem? (i := 299) (by decide +kernel)⟩
theorem lw_p14 : lw_okq (⟨"PlotterPlanner$RunGraph", "isOddVertex", "(LPlotterPlanner$Drawing;II)Z"⟩, 1) := ⟨⟨by decide +kernel, by decide +kernel⟩, List.mem_of_getElem? (i := 86) (by decide +kernel), List.mem_of_getElem? (i := 302) (by decide +kernel), List.mem_of_getElem? (i := 303) (by decide +kernel)⟩
theorem lw_p15 : lw_okq (⟨"PlotterPlanner", "codeOrError", "(I)I"⟩, 8) := ⟨⟨by decide +kernel, by decide +kernel⟩, List.mem_of_getElem? (i := 11) (by decide +kernel), List.mem_of_getElem? (i := 311) (by decide +kernel), List.mem_of_getElem? (i := 312) (by decide +kernel)⟩
def lw_privs_1 : List (MethodName × Nat) := [(⟨"PlotterPlanner", "beginEdit", "()V"⟩, 8), (⟨"PlotterPlanner$History", "slotAt", "(I)LPlotterPlanner$Drawing;"⟩, 3), (⟨"PlotterPlanner$Drawing", "dropFromPlan", "(I)V"⟩, 5), (⟨"PlotterPlanner$Drawing", "areAlike", "(II)Z"⟩, 5), (⟨"PlotterPlanner$Drawing", "beginXOf", "(I)I"⟩, 5), (⟨"PlotterPlanner$Drawing", "hasCode", "(I)Z"⟩, 5), (⟨"PlotterPlanner$Drawing", "beginYOf", "(I)I"⟩, 5), (⟨"PlotterPlanner$Drawing", "covers", "(II)Z"⟩, 5), (⟨"PlotterPlanner$Drawing", "liesOn", "(II)Z"⟩, 5), (⟨"PlotterPlanner$Drawing", "endXOf", "(I)I"⟩, 5), (⟨"PlotterPlanner$Drawing", "endYOf", "(I)I"⟩, 5), (⟨"PlotterPlanner$RunGraph", "joinComponents", "(LPlotterPlanner$Drawing;II)V"⟩, 1), (⟨"PlotterPlanner$RunGraph", "rename", "(III)V"⟩, 1), (⟨"PlotterPlanner$RunGraph", "countOddVertices", "(LPlotterPlanner$Drawing;II)I"⟩, 1), (⟨"PlotterPlanner$RunGraph", "isOddVertex", "(LPlotterPlanner$Drawing;II)Z"⟩, 1), (⟨"PlotterPlanner", "codeOrError", "(I)I"⟩, 8)]
theorem lw_r1 : ∀ q ∈ lw_privs_1, lw_okq q := List.forall_mem_cons.mpr ⟨lw_p0, List.forall_mem_cons.mpr ⟨lw_p1, List.forall_mem_cons.mpr ⟨lw_p2, List.forall_mem_cons.mpr ⟨lw_p3, List.forall_mem_cons.mpr ⟨lw_p4, List.forall_mem_cons.mpr ⟨lw_p5, List.forall_mem_cons.mpr ⟨lw_p6, List.forall_mem_cons.mpr ⟨lw_p7, List.forall_mem_cons.mpr ⟨lw_p8, List.forall_mem_cons.mpr ⟨lw_p9, List.forall_mem_cons.mpr ⟨lw_p10, List.forall_mem_cons.mpr ⟨lw_p11, List.forall_mem_cons.mpr ⟨lw_p12, List.forall_mem_cons.mpr ⟨lw_p13, List.forall_mem_cons.mpr ⟨lw_p14, List.forall_mem_cons.mpr ⟨lw_p15, fun _ h => absurd h List.not_mem_nil⟩⟩⟩⟩⟩⟩⟩⟩⟩⟩⟩⟩⟩⟩⟩⟩
theorem lw_p16 : lw_okq (⟨"PlotterPlanner$Drawing", "changesPen", "(II)Z"⟩, 5) := ⟨⟨by decide +kernel, by decide +kernel⟩, List.mem_of_getElem? (i := 19) (by decide +kernel), List.mem_of_getElem? (i := 362) (by decide +kernel), List.mem_of_getElem? (i := 363) (by decide +kernel)⟩
theorem lw_p17 : lw_okq (⟨"PlotterPlanner$Drawing", "penOfCode", "(I)I"⟩, 5) := ⟨⟨by decide +kernel, by decide +kernel⟩, List.mem_of_getElem? (i := 19) (by decide +kernel), List.mem_of_getElem? (i := 366) (by decide +kernel), List.mem_of_getElem? (i := 367) (by decide +kernel)⟩
theorem lw_p18 : lw_okq (⟨"PlotterPlanner$BestPlan", "fillSteps", "(LPlotterPlanner$Drawing;I)V"⟩, 6) := ⟨⟨by decide +kernel, by decide +kernel⟩, List.mem_of_getElem? (i := 61) (by decide +kernel), List.mem_of_getElem? (i := 412) (by decide +kernel), List.mem_of_getElem? (i := 413) (by decide +kernel)⟩
theorem lw_p19 : lw_okq (⟨"PlotterPlanner$BestPlan", "fillRests", "(I)V"⟩, 6) := ⟨⟨by decide +kernel, by decide +kernel⟩, List.mem_of_getElem? (i := 61) (by decide +kernel), List.mem_of_getElem? (i := 417) (by decide +kernel), List.mem_of_getElem? (i := 418) (by decide +kernel)⟩
theorem lw_p20 : lw_okq (⟨"PlotterPlanner$BestPlan", "cheapestNext", "(II)I"⟩, 6) := ⟨⟨by decide +kernel, by decide +kernel⟩, List.mem_of_getElem? (i := 61) (by decide +kernel), List.mem_of_getElem? (i := 424) (by decide +kernel), List.mem_of_getElem? (i := 425) (by decide +kernel)⟩
theorem lw_p21 : lw_okq (⟨"PlotterPlanner$BestPlan", "costThrough", "(III)I"⟩, 6) := ⟨⟨by decide +kernel, by decide +kernel⟩, List.mem_of_getElem? (i := 61) (by decide +kernel), List.mem_of_getElem? (i := 428) (by decide +kernel), List.mem_of_getElem? (i := 429) (by decide +kernel)⟩
theorem lw_p22 : lw_okq (⟨"PlotterPlanner$BestPlan", "stepAt", "(II)I"⟩, 6) := ⟨⟨by decide +kernel, by decide +kernel⟩, List.mem_of_getElem? (i := 61) (by decide +kernel), List.mem_of_getElem? (i := 432) (by decide +kernel), List.mem_of_getElem? (i := 433) (by decide +kernel)⟩
theorem lw_p23 : lw_okq (⟨"PlotterPlanner$BestPlan", "restAt", "(II)I"⟩, 6) := ⟨⟨by decide +kernel, by decide +kernel⟩, List.mem_of_getElem? (i := 61) (by decide +kernel), List.mem_of_getElem? (i := 439) (by decide +kernel), List.mem_of_getElem? (i := 440) (by decide +kernel)⟩
theorem lw_p24 : lw_okq (⟨"PlotterPlanner$BestPlan", "follow", "(I)V"⟩, 6) := ⟨⟨by decide +kernel, by decide +kernel⟩, List.mem_of_getElem? (i := 61) (by decide +kernel), List.mem_of_getElem? (i := 443) (by decide +kernel), List.mem_of_getElem? (i := 444) (by decide +kernel)⟩
theorem lw_p25 : lw_okq (⟨"PlotterPlanner$Drawing", "nearestCode", "(III)I"⟩, 5) := ⟨⟨by decide +kernel, by decide +kernel⟩, List.mem_of_getElem? (i := 19) (by decide +kernel), List.mem_of_getElem? (i := 476) (by decide +kernel), List.mem_of_getElem? (i := 477) (by decide +kernel)⟩
theorem lw_p26 : lw_okq (⟨"PlotterPlannerModel", "edit", "()V"⟩, 10) := ⟨⟨by decide +kernel, by decide +kernel⟩, List.mem_of_getElem? (i := 548) (by decide +kernel), List.mem_of_getElem? (i := 596) (by decide +kernel), List.mem_of_getElem? (i := 597) (by decide +kernel)⟩
theorem lw_p27 : lw_okq (⟨"PlotterPlannerModel", "isStroke", "(I)Z"⟩, 10) := ⟨⟨by decide +kernel, by decide +kernel⟩, List.mem_of_getElem? (i := 548) (by decide +kernel), List.mem_of_getElem? (i := 604) (by decide +kernel), List.mem_of_getElem? (i := 605) (by decide +kernel)⟩
theorem lw_p28 : lw_okq (⟨"PlotterPlannerModel", "removes", "(I)V"⟩, 10) := ⟨⟨by decide +kernel, by decide +kernel⟩, List.mem_of_getElem? (i := 548) (by decide +kernel), List.mem_of_getElem? (i := 608) (by decide +kernel), List.mem_of_getElem? (i := 609) (by decide +kernel)⟩
theorem lw_p29 : lw_okq (⟨"PlotterPlannerModel", "penAt", "(I)I"⟩, 10) := ⟨⟨by decide +kernel, by decide +kernel⟩, List.mem_of_getElem? (i := 548) (by decide +kernel), List.mem_of_getElem? (i := 620) (by decide +kernel), List.mem_of_getElem? (i := 621) (by decide +kernel)⟩
theorem lw_p30 : lw_okq (⟨"PlotterPlannerModel", "areAlike", "(II)Z"⟩, 10) := ⟨⟨by decide +kernel, by decide +kernel⟩, List.mem_of_getElem? (i := 548) (by decide +kernel), List.mem_of_getElem? (i := 628) (by decide +kernel), List.mem_of_getElem? (i := 629) (by decide +kernel)⟩
theorem lw_p31 : lw_okq (⟨"PlotterPlannerModel", "lies", "(III)Z"⟩, 10) := ⟨⟨by decide +kernel, by decide +kernel⟩, List.mem_of_getElem? (i := 548) (by decide +kernel), List.mem_of_getElem? (i := 636) (by decide +kernel), List.mem_of_getElem? (i := 637) (by decide +kernel)⟩
def lw_privs_2 : List (MethodName × Nat) := [(⟨"PlotterPlanner$Drawing", "changesPen", "(II)Z"⟩, 5), (⟨"PlotterPlanner$Drawing", "penOfCode", "(I)I"⟩, 5), (⟨"PlotterPlanner$BestPlan", "fillSteps", "(LPlotterPlanner$Drawing;I)V"⟩, 6), (⟨"PlotterPlanner$BestPlan", "fillRests", "(I)V"⟩, 6), (⟨"PlotterPlanner$BestPlan", "cheapestNext", "(II)I"⟩, 6), (⟨"PlotterPlanner$BestPlan", "costThrough", "(III)I"⟩, 6), (⟨"PlotterPlanner$BestPlan", "stepAt", "(II)I"⟩, 6), (⟨"PlotterPlanner$BestPlan", "restAt", "(II)I"⟩, 6), (⟨"PlotterPlanner$BestPlan", "follow", "(I)V"⟩, 6), (⟨"PlotterPlanner$Drawing", "nearestCode", "(III)I"⟩, 5), (⟨"PlotterPlannerModel", "edit", "()V"⟩, 10), (⟨"PlotterPlannerModel", "isStroke", "(I)Z"⟩, 10), (⟨"PlotterPlannerModel", "removes", "(I)V"⟩, 10), (⟨"PlotterPlannerModel", "penAt", "(I)I"⟩, 10), (⟨"PlotterPlannerModel", "areAlike", "(II)Z"⟩, 10), (⟨"PlotterPlannerModel", "lies", "(III)Z"⟩, 10)]
theorem lw_r2 : ∀ q ∈ lw_privs_2, lw_okq q := List.forall_mem_cons.mpr ⟨lw_p16, List.forall_mem_cons.mpr ⟨lw_p17, List.forall_mem_cons.mpr ⟨lw_p18, List.forall_mem_cons.mpr ⟨lw_p19, List.forall_mem_cons.mpr ⟨lw_p20, List.forall_mem_cons.mpr ⟨lw_p21, List.forall_mem_cons.mpr ⟨lw_p22, List.forall_mem_cons.mpr ⟨lw_p23, List.forall_mem_cons.mpr ⟨lw_p24, List.forall_mem_cons.mpr ⟨lw_p25, List.forall_mem_cons.mpr ⟨lw_p26, List.forall_mem_cons.mpr ⟨lw_p27, List.forall_mem_cons.mpr ⟨lw_p28, List.forall_mem_cons.mpr ⟨lw_p29, List.forall_mem_cons.mpr ⟨lw_p30, List.forall_mem_cons.mpr ⟨lw_p31, fun _ h => absurd h List.not_mem_nil⟩⟩⟩⟩⟩⟩⟩⟩⟩⟩⟩⟩⟩⟩⟩⟩
theorem lw_p32 : lw_okq (⟨"PlotterPlannerModel", "joins", "(I)V"⟩, 10) := ⟨⟨by decide +kernel, by decide +kernel⟩, List.mem_of_getElem? (i := 548) (by decide +kernel), List.mem_of_getElem? (i := 651) (by decide +kernel), List.mem_of_getElem? (i := 652) (by decide +kernel)⟩
theorem lw_p33 : lw_okq (⟨"PlotterPlannerModel", "isOfPen", "(II)Z"⟩, 10) := ⟨⟨by decide +kernel, by decide +kernel⟩, List.mem_of_getElem? (i := 548) (by decide +kernel), List.mem_of_getElem? (i := 655) (by decide +kernel), List.mem_of_getElem? (i := 656) (by decide +kernel)⟩
theorem lw_p34 : lw_okq (⟨"PlotterPlannerModel", "isSamePoint", "(II)Z"⟩, 10) := ⟨⟨by decide +kernel, by decide +kernel⟩, List.mem_of_getElem? (i := 548) (by decide +kernel), List.mem_of_getElem? (i := 659) (by decide +kernel), List.mem_of_getElem? (i := 660) (by decide +kernel)⟩
theorem lw_p35 : lw_okq (⟨"PlotterPlannerModel", "degree", "(II)I"⟩, 10) := ⟨⟨by decide +kernel, by decide +kernel⟩, List.mem_of_getElem? (i := 548) (by decide +kernel), List.mem_of_getElem? (i := 663) (by decide +kernel), List.mem_of_getElem? (i := 664) (by decide +kernel)⟩
theorem lw_p36 : lw_okq (⟨"PlotterPlannerModel", "isPosition", "(I)Z"⟩, 10) := ⟨⟨by decide +kernel, by decide +kernel⟩, List.mem_of_getElem? (i := 548) (by decide +kernel), List.mem_of_getElem? (i := 671) (by decide +kernel), List.mem_of_getElem? (i := 672) (by decide +kernel)⟩
theorem lw_p37 : lw_okq (⟨"PlotterPlannerModel", "at", "(I)I"⟩, 10) := ⟨⟨by decide +kernel, by decide +kernel⟩, List.mem_of_getElem? (i := 548) (by decide +kernel), List.mem_of_getElem? (i := 675) (by decide +kernel), List.mem_of_getElem? (i := 676) (by decide +kernel)⟩
theorem lw_p38 : lw_okq (⟨"PlotterPlannerModel", "step", "(II)I"⟩, 10) := ⟨⟨by decide +kernel, by decide +kernel⟩, List.mem_of_getElem? (i := 548) (by decide +kernel), List.mem_of_getElem? (i := 695) (by decide +kernel), List.mem_of_getElem? (i := 696) (by decide +kernel)⟩
theorem lw_p39 : lw_okq (⟨"PlotterPlannerModel", "isLinked", "(I)Z"⟩, 10) := ⟨⟨by decide +kernel, by decide +kernel⟩, List.mem_of_getElem? (i := 548) (by decide +kernel), List.mem_of_getElem? (i := 716) (by decide +kernel), List.mem_of_getElem? (i := 717) (by decide +kernel)⟩
theorem lw_p40 : lw_okq (⟨"PlotterPlannerModel", "finds", "()I"⟩, 10) := ⟨⟨by decide +kernel, by decide +kernel⟩, List.mem_of_getElem? (i := 548) (by decide +kernel), List.mem_of_getElem? (i := 732) (by decide +kernel), List.mem_of_getElem? (i := 733) (by decide +kernel)⟩
theorem lw_p41 : lw_okq (⟨"PlotterPlannerModel", "ahead", "(II)I"⟩, 10) := ⟨⟨by decide +kernel, by decide +kernel⟩, List.mem_of_getElem? (i := 548) (by decide +kernel), List.mem_of_getElem? (i := 736) (by decide +kernel), List.mem_of_getElem? (i := 737) (by decide +kernel)⟩
theorem lw_p42 : lw_okq (⟨"PlotterPlannerModel", "corner", "(I)I"⟩, 10) := ⟨⟨by decide +kernel, by decide +kernel⟩, List.mem_of_getElem? (i := 548) (by decide +kernel), List.mem_of_getElem? (i := 765) (by decide +kernel), List.mem_of_getElem? (i := 766) (by decide +kernel)⟩
theorem lw_p43 : lw_okq (⟨"PlotterPlannerModel", "dx", "(I)I"⟩, 10) := ⟨⟨by decide +kernel, by decide +kernel⟩, List.mem_of_getElem? (i := 548) (by decide +kernel), List.mem_of_getElem? (i := 769) (by decide +kernel), List.mem_of_getElem? (i := 770) (by decide +kernel)⟩
theorem lw_p44 : lw_okq (⟨"PlotterPlannerModel", "dy", "(I)I"⟩, 10) := ⟨⟨by decide +kernel, by decide +kernel⟩, List.mem_of_getElem? (i := 548) (by decide +kernel), List.mem_of_getElem? (i := 773) (by decide +kernel), List.mem_of_getElem? (i := 774) (by decide +kernel)⟩
theorem lw_p45 : lw_okq (⟨"PlotterPlannerModel", "speeds", "()V"⟩, 10) := ⟨⟨by decide +kernel, by decide +kernel⟩, List.mem_of_getElem? (i := 548) (by decide +kernel), List.mem_of_getElem? (i := 781) (by decide +kernel), List.mem_of_getElem? (i := 782) (by decide +kernel)⟩
theorem lw_p46 : lw_okq (⟨"PlotterPlannerModel", "before", "(I)I"⟩, 10) := ⟨⟨by decide +kernel, by decide +kernel⟩, List.mem_of_getElem? (i := 548) (by decide +kernel), List.mem_of_getElem? (i := 785) (by decide +kernel), List.mem_of_getElem? (i := 786) (by decide +kernel)⟩
theorem lw_p47 : lw_okq (⟨"PlotterPlannerModel", "gain", "(I)I"⟩, 10) := ⟨⟨by decide +kernel, by decide +kernel⟩, List.mem_of_getElem? (i := 548) (by decide +kernel), List.mem_of_getElem? (i := 789) (by decide +kernel), List.mem_of_getElem? (i := 790) (by decide +kernel)⟩
def lw_privs_3 : List (MethodName × Nat) := [(⟨"PlotterPlannerModel", "joins", "(I)V"⟩, 10), (⟨"PlotterPlannerModel", "isOfPen", "(II)Z"⟩, 10), (⟨"PlotterPlannerModel", "isSamePoint", "(II)Z"⟩, 10), (⟨"PlotterPlannerModel", "degree", "(II)I"⟩, 10), (⟨"PlotterPlannerModel", "isPosition", "(I)Z"⟩, 10), (⟨"PlotterPlannerModel", "at", "(I)I"⟩, 10), (⟨"PlotterPlannerModel", "step", "(II)I"⟩, 10), (⟨"PlotterPlannerModel", "isLinked", "(I)Z"⟩, 10), (⟨"PlotterPlannerModel", "finds", "()I"⟩, 10), (⟨"PlotterPlannerModel", "ahead", "(II)I"⟩, 10), (⟨"PlotterPlannerModel", "corner", "(I)I"⟩, 10), (⟨"PlotterPlannerModel", "dx", "(I)I"⟩, 10), (⟨"PlotterPlannerModel", "dy", "(I)I"⟩, 10), (⟨"PlotterPlannerModel", "speeds", "()V"⟩, 10), (⟨"PlotterPlannerModel", "before", "(I)I"⟩, 10), (⟨"PlotterPlannerModel", "gain", "(I)I"⟩, 10)]
theorem lw_r3 : ∀ q ∈ lw_privs_3, lw_okq q := List.forall_mem_cons.mpr ⟨lw_p32, List.forall_mem_cons.mpr ⟨lw_p33, List.forall_mem_cons.mpr ⟨lw_p34, List.forall_mem_cons.mpr ⟨lw_p35, List.forall_mem_cons.mpr ⟨lw_p36, List.forall_mem_cons.mpr ⟨lw_p37, List.forall_mem_cons.mpr ⟨lw_p38, List.forall_mem_cons.mpr ⟨lw_p39, List.forall_mem_cons.mpr ⟨lw_p40, List.forall_mem_cons.mpr ⟨lw_p41, List.forall_mem_cons.mpr ⟨lw_p42, List.forall_mem_cons.mpr ⟨lw_p43, List.forall_mem_cons.mpr ⟨lw_p44, List.forall_mem_cons.mpr ⟨lw_p45, List.forall_mem_cons.mpr ⟨lw_p46, List.forall_mem_cons.mpr ⟨lw_p47, fun _ h => absurd h List.not_mem_nil⟩⟩⟩⟩⟩⟩⟩⟩⟩⟩⟩⟩⟩⟩⟩⟩
def lw_privs : List (MethodName × Nat) := lw_privs_1 ++ (lw_privs_2 ++ (lw_privs_3))
def lw_tbl : List Cond := k2_sels lw_privs ++ tables_1
theorem lw_privs_ok : ∀ q ∈ lw_privs, lw_okq q := by
  show ∀ q ∈ lw_privs_1 ++ (lw_privs_2 ++ (lw_privs_3)), lw_okq q
  exact List.forall_mem_append.mpr ⟨lw_r1, List.forall_mem_append.mpr ⟨lw_r2, lw_r3⟩⟩
/-! ===== BEGIN words of one list among another's, by their places ===== -/
theorem goodIn_r {big : List Cond} (ws : List Cond) (ps : List Nat) (hp : ws = ps.filterMap (fun i => big[i]?)) (h : ws.all goodWord = true) : GoodIn big ws := by
  intro w hw
  have h1 := List.all_eq_true.mp h w hw
  rw [hp] at hw
  obtain ⟨i, -, hi⟩ := List.mem_filterMap.mp hw
  have hm : w ∈ big := by first | exact List.mem_of_getElem? hi | exact List.getElem?_mem hi
  exact ⟨hm, good_of_word h1⟩
theorem goodIn_app {big a b : List Cond} (ha : GoodIn big a) (hb : GoodIn big b) : GoodIn big (a ++ b) := fun w h => (List.mem_append.mp h).elim (ha w) (hb w)
theorem goodIn_ca {big a b : List Cond} {c : Cond} (ha : GoodIn big (c :: a)) (hb : GoodIn big b) : GoodIn big (c :: (a ++ b)) := fun w h => (List.mem_cons.mp h).elim (fun e => ha w (List.mem_cons.mpr (Or.inl e))) (fun h => (List.mem_append.mp h).elim (fun h => ha w (List.mem_cons.mpr (Or.inr h))) (hb w))
theorem goodIn_sub {big ws : List Cond} (hm : ∀ w ∈ ws, w ∈ big) (h : ws.all goodWord = true) : GoodIn big ws := fun w hw => ⟨hm w hw, good_of_word (List.all_eq_true.mp h w hw)⟩
/-! ===== END ===== -/

/-! ===== BEGIN printed: names, fields, word lists, decode rows ===== -/
def RX0 : String := "PlotterPlanner$BestPlan"
def TX0 : u_T := fun k => match k with
  | 0 => ("PlotterPlanner$BestPlan", "steps", "[I", true)
  | 1 => ("PlotterPlanner$BestPlan", "rests", "[I", true)
  | 2 => ("PlotterPlanner$BestPlan", "codes", "[I", true)
  | 3 => ("PlotterPlanner$BestPlan", "codeCount", "I", false)
  | 4 => ("PlotterPlanner$BestPlan", "total", "I", false)
  | _ => ("PlotterPlanner$BestPlan", "known", "Z", false)
def tyX0 : Nat → FieldType := fun k => match k with
  | 0 => .array .int
  | 1 => .array .int
  | 2 => .array .int
  | 3 => .int
  | 4 => .int
  | _ => .boolean
abbrev wsX00 : List Cond := u_ws RX0 TX0 6
theorem nmX0 : ∀ a, a < 6 → ∀ b, b < 6 → a ≠ b → (TX0 a).2.1 ≠ (TX0 b).2.1 := by decide +kernel
theorem tyX0_ok : ∀ k, k < 6 → parseFieldDescriptor (TX0 k).2.2.1 = some (tyX0 k) := by decide +kernel
abbrev cX0_init : ByteArray := prog_2_method_1_code
def yX0_init : MethodName := ⟨RX0, "<init>", "()V"⟩
abbrev cX0_forget : ByteArray := prog_2_method_2_code
def yX0_forget : MethodName := ⟨RX0, "forget", "()V"⟩
abbrev cX0_total : ByteArray := prog_2_method_3_code
def yX0_total : MethodName := ⟨RX0, "total", "()I"⟩
abbrev cX0_codeAt : ByteArray := prog_2_method_4_code
def yX0_codeAt : MethodName := ⟨RX0, "codeAt", "(I)I"⟩
abbrev cX0_find : ByteArray := prog_2_method_5_code
def yX0_find : MethodName := ⟨RX0, "find", "(LPlotterPlanner$Drawing;I)V"⟩
abbrev cX0_fillSteps : ByteArray := prog_2_method_6_code
def yX0_fillSteps : MethodName := ⟨RX0, "fillSteps", "(LPlotterPlanner$Drawing;I)V"⟩
abbrev cX0_fillRests : ByteArray := prog_2_method_7_code
def yX0_fillRests : MethodName := ⟨RX0, "fillRests", "(I)V"⟩
abbrev cX0_follow : ByteArray := prog_2_method_8_code
def yX0_follow : MethodName := ⟨RX0, "follow", "(I)V"⟩
abbrev cX0_cheapestNext : ByteArray := prog_2_method_9_code
def yX0_cheapestNext : MethodName := ⟨RX0, "cheapestNext", "(II)I"⟩
abbrev cX0_costThrough : ByteArray := prog_2_method_10_code
def yX0_costThrough : MethodName := ⟨RX0, "costThrough", "(III)I"⟩
abbrev cX0_stepAt : ByteArray := prog_2_method_11_code
def yX0_stepAt : MethodName := ⟨RX0, "stepAt", "(II)I"⟩
abbrev cX0_restAt : ByteArray := prog_2_method_12_code
def yX0_restAt : MethodName := ⟨RX0, "restAt", "(II)I"⟩
abbrev cX0_contains : ByteArray := prog_2_method_13_code
def yX0_contains : MethodName := ⟨RX0, "contains", "(II)Z"⟩
abbrev cX0_without : ByteArray := prog_2_method_14_code
def yX0_without : MethodName := ⟨RX0, "without", "(II)I"⟩
def RX1 : String := "PlotterPlanner$Drawing"
def TX1 : u_T := fun k => match k with
  | 0 => ("PlotterPlanner$Drawing", "size", "I", false)
  | 1 => ("PlotterPlanner$Drawing", "pens", "[I", true)
  | 2 => ("PlotterPlanner$Drawing", "beginX", "[I", true)
  | 3 => ("PlotterPlanner$Drawing", "beginY", "[I", true)
  | _ => ("PlotterPlanner$Drawing", "plan", "[I", true)
def tyX1 : Nat → FieldType := fun k => match k with
  | 0 => .int
  | 1 => .array .int
  | 2 => .array .int
  | 3 => .array .int
  | _ => .array .int
abbrev wsX10 : List Cond := u_ws RX1 TX1 5
theorem nmX1 : ∀ a, a < 5 → ∀ b, b < 5 → a ≠ b → (TX1 a).2.1 ≠ (TX1 b).2.1 := by decide +kernel
theorem tyX1_ok : ∀ k, k < 5 → parseFieldDescriptor (TX1 k).2.2.1 = some (tyX1 k) := by decide +kernel
abbrev cX1_init : ByteArray := prog_3_method_1_code
def yX1_init : MethodName := ⟨RX1, "<init>", "()V"⟩
abbrev cX1_size : ByteArray := prog_3_method_2_code
def yX1_size : MethodName := ⟨RX1, "size", "()I"⟩
abbrev cX1_hasStroke : ByteArray := prog_3_method_3_code
def yX1_hasStroke : MethodName := ⟨RX1, "hasStroke", "(I)Z"⟩
abbrev cX1_hasPosition : ByteArray := prog_3_method_4_code
def yX1_hasPosition : MethodName := ⟨RX1, "hasPosition", "(I)Z"⟩
abbrev cX1_penOfStroke : ByteArray := prog_3_method_5_code
def yX1_penOfStroke : MethodName := ⟨RX1, "penOfStroke", "(I)I"⟩
abbrev cX1_codeAt : ByteArray := prog_3_method_6_code
def yX1_codeAt : MethodName := ⟨RX1, "codeAt", "(I)I"⟩
abbrev cX1_setCode : ByteArray := prog_3_method_7_code
def yX1_setCode : MethodName := ⟨RX1, "setCode", "(II)V"⟩
abbrev cX1_copyFrom : ByteArray := prog_3_method_8_code
def yX1_copyFrom : MethodName := ⟨RX1, "copyFrom", "(LPlotterPlanner$Drawing;)V"⟩
abbrev cX1_append : ByteArray := prog_3_method_9_code
def yX1_append : MethodName := ⟨RX1, "append", "(IIIII)I"⟩
abbrev cX1_drop : ByteArray := prog_3_method_10_code
def yX1_drop : MethodName := ⟨RX1, "drop", "(I)V"⟩
abbrev cX1_dropFromPlan : ByteArray := prog_3_method_11_code
def yX1_dropFromPlan : MethodName := ⟨RX1, "dropFromPlan", "(I)V"⟩
abbrev cX1_dropDuplicates : ByteArray := prog_3_method_12_code
def yX1_dropDuplicates : MethodName := ⟨RX1, "dropDuplicates", "()I"⟩
abbrev cX1_move : ByteArray := prog_3_method_13_code
def yX1_move : MethodName := ⟨RX1, "move", "(II)V"⟩
abbrev cX1_turn : ByteArray := prog_3_method_14_code
def yX1_turn : MethodName := ⟨RX1, "turn", "(I)V"⟩
abbrev cX1_orderByNearest : ByteArray := prog_3_method_15_code
def yX1_orderByNearest : MethodName := ⟨RX1, "orderByNearest", "(I)V"⟩
abbrev cX1_nearestCode : ByteArray := prog_3_method_16_code
def yX1_nearestCode : MethodName := ⟨RX1, "nearestCode", "(III)I"⟩
abbrev cX1_stepCost : ByteArray := prog_3_method_17_code
def yX1_stepCost : MethodName := ⟨RX1, "stepCost", "(III)I"⟩
abbrev cX1_planCost : ByteArray := prog_3_method_18_code
def yX1_planCost : MethodName := ⟨RX1, "planCost", "(I)I"⟩
abbrev cX1_countPenChanges : ByteArray := prog_3_method_19_code
def yX1_countPenChanges : MethodName := ⟨RX1, "countPenChanges", "()I"⟩
abbrev cX1_changesPen : ByteArray := prog_3_method_20_code
def yX1_changesPen : MethodName := ⟨RX1, "changesPen", "(II)Z"⟩
abbrev cX1_isLinkedToNext : ByteArray := prog_3_method_21_code
def yX1_isLinkedToNext : MethodName := ⟨RX1, "isLinkedToNext", "(I)Z"⟩
abbrev cX1_countRuns : ByteArray := prog_3_method_22_code
def yX1_countRuns : MethodName := ⟨RX1, "countRuns", "()I"⟩
abbrev cX1_lengthOfRun : ByteArray := prog_3_method_23_code
def yX1_lengthOfRun : MethodName := ⟨RX1, "lengthOfRun", "(I)I"⟩
abbrev cX1_lowestAlike : ByteArray := prog_3_method_24_code
def yX1_lowestAlike : MethodName := ⟨RX1, "lowestAlike", "(I)I"⟩
abbrev cX1_lowestCover : ByteArray := prog_3_method_25_code
def yX1_lowestCover : MethodName := ⟨RX1, "lowestCover", "(I)I"⟩
abbrev cX1_areAlike : ByteArray := prog_3_method_26_code
def yX1_areAlike : MethodName := ⟨RX1, "areAlike", "(II)Z"⟩
abbrev cX1_covers : ByteArray := prog_3_method_27_code
def yX1_covers : MethodName := ⟨RX1, "covers", "(II)Z"⟩
abbrev cX1_liesOn : ByteArray := prog_3_method_28_code
def yX1_liesOn : MethodName := ⟨RX1, "liesOn", "(II)Z"⟩
abbrev cX1_samePoint : ByteArray := prog_3_method_29_code
def yX1_samePoint : MethodName := ⟨RX1, "samePoint", "(II)Z"⟩
abbrev cX1_lengthAt : ByteArray := prog_3_method_30_code
def yX1_lengthAt : MethodName := ⟨RX1, "lengthAt", "(I)I"⟩
abbrev cX1_cornerSquare : ByteArray := prog_3_method_31_code
def yX1_cornerSquare : MethodName := ⟨RX1, "cornerSquare", "(II)I"⟩
abbrev cX1_wayLength : ByteArray := prog_3_method_32_code
def yX1_wayLength : MethodName := ⟨RX1, "wayLength", "(IIII)I"⟩
abbrev cX1_hasCode : ByteArray := prog_3_method_33_code
def yX1_hasCode : MethodName := ⟨RX1, "hasCode", "(I)Z"⟩
abbrev cX1_penOfCode : ByteArray := prog_3_method_34_code
def yX1_penOfCode : MethodName := ⟨RX1, "penOfCode", "(I)I"⟩
abbrev cX1_beginXOf : ByteArray := prog_3_method_35_code
def yX1_beginXOf : MethodName := ⟨RX1, "beginXOf", "(I)I"⟩
abbrev cX1_beginYOf : ByteArray := prog_3_method_36_code
def yX1_beginYOf : MethodName := ⟨RX1, "beginYOf", "(I)I"⟩
abbrev cX1_endXOf : ByteArray := prog_3_method_37_code
def yX1_endXOf : MethodName := ⟨RX1, "endXOf", "(I)I"⟩
abbrev cX1_endYOf : ByteArray := prog_3_method_38_code
def yX1_endYOf : MethodName := ⟨RX1, "endYOf", "(I)I"⟩
def RX2 : String := "PlotterPlanner$History"
def TX2 : u_T := fun k => match k with
  | 0 => ("PlotterPlanner$History", "ring", "[LPlotterPlanner$Drawing;", true)
  | 1 => ("PlotterPlanner$History", "next", "I", false)
  | _ => ("PlotterPlanner$History", "depth", "I", false)
def tyX2 : Nat → FieldType := fun k => match k with
  | 0 => .array (.object "PlotterPlanner$Drawing")
  | 1 => .int
  | _ => .int
abbrev wsX20 : List Cond := u_ws RX2 TX2 3
theorem nmX2 : ∀ a, a < 3 → ∀ b, b < 3 → a ≠ b → (TX2 a).2.1 ≠ (TX2 b).2.1 := by decide +kernel
theorem tyX2_ok : ∀ k, k < 3 → parseFieldDescriptor (TX2 k).2.2.1 = some (tyX2 k) := by decide +kernel
abbrev cX2_init : ByteArray := prog_4_method_1_code
def yX2_init : MethodName := ⟨RX2, "<init>", "()V"⟩
abbrev cX2_isEmpty : ByteArray := prog_4_method_2_code
def yX2_isEmpty : MethodName := ⟨RX2, "isEmpty", "()Z"⟩
abbrev cX2_depth : ByteArray := prog_4_method_3_code
def yX2_depth : MethodName := ⟨RX2, "depth", "()I"⟩
abbrev cX2_keep : ByteArray := prog_4_method_4_code
def yX2_keep : MethodName := ⟨RX2, "keep", "(LPlotterPlanner$Drawing;)V"⟩
abbrev cX2_restore : ByteArray := prog_4_method_5_code
def yX2_restore : MethodName := ⟨RX2, "restore", "(LPlotterPlanner$Drawing;)V"⟩
abbrev cX2_slotAt : ByteArray := prog_4_method_6_code
def yX2_slotAt : MethodName := ⟨RX2, "slotAt", "(I)LPlotterPlanner$Drawing;"⟩
def RX3 : String := "PlotterPlanner$RunGraph"
def TX3 : u_T := fun k => match k with
  | _ => ("PlotterPlanner$RunGraph", "components", "[I", true)
def tyX3 : Nat → FieldType := fun k => match k with
  | _ => .array .int
abbrev wsX30 : List Cond := u_ws RX3 TX3 1
theorem nmX3 : ∀ a, a < 1 → ∀ b, b < 1 → a ≠ b → (TX3 a).2.1 ≠ (TX3 b).2.1 := by decide +kernel
theorem tyX3_ok : ∀ k, k < 1 → parseFieldDescriptor (TX3 k).2.2.1 = some (tyX3 k) := by decide +kernel
abbrev cX3_init : ByteArray := prog_5_method_1_code
def yX3_init : MethodName := ⟨RX3, "<init>", "()V"⟩
abbrev cX3_fewestRuns : ByteArray := prog_5_method_2_code
def yX3_fewestRuns : MethodName := ⟨RX3, "fewestRuns", "(LPlotterPlanner$Drawing;I)I"⟩
abbrev cX3_joinComponents : ByteArray := prog_5_method_3_code
def yX3_joinComponents : MethodName := ⟨RX3, "joinComponents", "(LPlotterPlanner$Drawing;II)V"⟩
abbrev cX3_touch : ByteArray := prog_5_method_4_code
def yX3_touch : MethodName := ⟨RX3, "touch", "(LPlotterPlanner$Drawing;II)Z"⟩
abbrev cX3_rename : ByteArray := prog_5_method_5_code
def yX3_rename : MethodName := ⟨RX3, "rename", "(III)V"⟩
abbrev cX3_countOddVertices : ByteArray := prog_5_method_6_code
def yX3_countOddVertices : MethodName := ⟨RX3, "countOddVertices", "(LPlotterPlanner$Drawing;II)I"⟩
abbrev cX3_isOddVertex : ByteArray := prog_5_method_7_code
def yX3_isOddVertex : MethodName := ⟨RX3, "isOddVertex", "(LPlotterPlanner$Drawing;II)Z"⟩
def RX4 : String := "PlotterPlanner$Speeds"
def TX4 : u_T := fun k => match k with
  | _ => ("PlotterPlanner$Speeds", "ends", "[I", true)
def tyX4 : Nat → FieldType := fun k => match k with
  | _ => .array .int
abbrev wsX40 : List Cond := u_ws RX4 TX4 1
theorem nmX4 : ∀ a, a < 1 → ∀ b, b < 1 → a ≠ b → (TX4 a).2.1 ≠ (TX4 b).2.1 := by decide +kernel
theorem tyX4_ok : ∀ k, k < 1 → parseFieldDescriptor (TX4 k).2.2.1 = some (tyX4 k) := by decide +kernel
abbrev cX4_init : ByteArray := prog_6_method_1_code
def yX4_init : MethodName := ⟨RX4, "<init>", "()V"⟩
abbrev cX4_compute : ByteArray := prog_6_method_2_code
def yX4_compute : MethodName := ⟨RX4, "compute", "(LPlotterPlanner$Drawing;II)V"⟩
abbrev cX4_endAt : ByteArray := prog_6_method_3_code
def yX4_endAt : MethodName := ⟨RX4, "endAt", "(I)I"⟩
abbrev cX4_beginAt : ByteArray := prog_6_method_4_code
def yX4_beginAt : MethodName := ⟨RX4, "beginAt", "(I)I"⟩
def RX5 : String := "PlotterPlanner"
def TX5 : u_T := fun k => match k with
  | 0 => ("PlotterPlanner", "drawing", "LPlotterPlanner$Drawing;", true)
  | 1 => ("PlotterPlanner", "history", "LPlotterPlanner$History;", true)
  | 2 => ("PlotterPlanner", "best", "LPlotterPlanner$BestPlan;", true)
  | 3 => ("PlotterPlanner", "graph", "LPlotterPlanner$RunGraph;", true)
  | 4 => ("PlotterPlanner", "speeds", "LPlotterPlanner$Speeds;", true)
  | 5 => ("PlotterPlanner", "penCost", "I", false)
  | 6 => ("PlotterPlanner", "squareLimit", "I", false)
  | _ => ("PlotterPlanner", "acceleration", "I", false)
def tyX5 : Nat → FieldType := fun k => match k with
  | 0 => .object "PlotterPlanner$Drawing"
  | 1 => .object "PlotterPlanner$History"
  | 2 => .object "PlotterPlanner$BestPlan"
  | 3 => .object "PlotterPlanner$RunGraph"
  | 4 => .object "PlotterPlanner$Speeds"
  | 5 => .int
  | 6 => .int
  | _ => .int
abbrev wsX50 : List Cond := u_ws RX5 TX5 8
theorem nmX5 : ∀ a, a < 8 → ∀ b, b < 8 → a ≠ b → (TX5 a).2.1 ≠ (TX5 b).2.1 := by decide +kernel
theorem tyX5_ok : ∀ k, k < 8 → parseFieldDescriptor (TX5 k).2.2.1 = some (tyX5 k) := by decide +kernel
abbrev cX5_init : ByteArray := prog_1_method_1_code
def yX5_init : MethodName := ⟨RX5, "<init>", "()V"⟩
abbrev cX5_addStroke : ByteArray := prog_1_method_2_code
def yX5_addStroke : MethodName := ⟨RX5, "addStroke", "(IIIII)I"⟩
abbrev cX5_removeStroke : ByteArray := prog_1_method_3_code
def yX5_removeStroke : MethodName := ⟨RX5, "removeStroke", "(I)I"⟩
abbrev cX5_strokeCount : ByteArray := prog_1_method_4_code
def yX5_strokeCount : MethodName := ⟨RX5, "strokeCount", "()I"⟩
abbrev cX5_penOf : ByteArray := prog_1_method_5_code
def yX5_penOf : MethodName := ⟨RX5, "penOf", "(I)I"⟩
abbrev cX5_alikeTo : ByteArray := prog_1_method_6_code
def yX5_alikeTo : MethodName := ⟨RX5, "alikeTo", "(I)I"⟩
abbrev cX5_coveredBy : ByteArray := prog_1_method_7_code
def yX5_coveredBy : MethodName := ⟨RX5, "coveredBy", "(I)I"⟩
abbrev cX5_removeDuplicates : ByteArray := prog_1_method_8_code
def yX5_removeDuplicates : MethodName := ⟨RX5, "removeDuplicates", "()I"⟩
abbrev cX5_leastRuns : ByteArray := prog_1_method_9_code
def yX5_leastRuns : MethodName := ⟨RX5, "leastRuns", "(I)I"⟩
abbrev cX5_strokeAt : ByteArray := prog_1_method_10_code
def yX5_strokeAt : MethodName := ⟨RX5, "strokeAt", "(I)I"⟩
abbrev cX5_directionAt : ByteArray := prog_1_method_11_code
def yX5_directionAt : MethodName := ⟨RX5, "directionAt", "(I)I"⟩
abbrev cX5_movePosition : ByteArray := prog_1_method_12_code
def yX5_movePosition : MethodName := ⟨RX5, "movePosition", "(II)I"⟩
abbrev cX5_turnPosition : ByteArray := prog_1_method_13_code
def yX5_turnPosition : MethodName := ⟨RX5, "turnPosition", "(I)I"⟩
abbrev cX5_cost : ByteArray := prog_1_method_14_code
def yX5_cost : MethodName := ⟨RX5, "cost", "()I"⟩
abbrev cX5_penChanges : ByteArray := prog_1_method_15_code
def yX5_penChanges : MethodName := ⟨RX5, "penChanges", "()I"⟩
abbrev cX5_runCount : ByteArray := prog_1_method_16_code
def yX5_runCount : MethodName := ⟨RX5, "runCount", "()I"⟩
abbrev cX5_runLength : ByteArray := prog_1_method_17_code
def yX5_runLength : MethodName := ⟨RX5, "runLength", "(I)I"⟩
abbrev cX5_setPenCost : ByteArray := prog_1_method_18_code
def yX5_setPenCost : MethodName := ⟨RX5, "setPenCost", "(I)I"⟩
abbrev cX5_bestCost : ByteArray := prog_1_method_19_code
def yX5_bestCost : MethodName := ⟨RX5, "bestCost", "()I"⟩
abbrev cX5_bestAt : ByteArray := prog_1_method_20_code
def yX5_bestAt : MethodName := ⟨RX5, "bestAt", "(I)I"⟩
abbrev cX5_adoptBest : ByteArray := prog_1_method_21_code
def yX5_adoptBest : MethodName := ⟨RX5, "adoptBest", "()I"⟩
abbrev cX5_adoptNearest : ByteArray := prog_1_method_22_code
def yX5_adoptNearest : MethodName := ⟨RX5, "adoptNearest", "()I"⟩
abbrev cX5_setSquareLimit : ByteArray := prog_1_method_23_code
def yX5_setSquareLimit : MethodName := ⟨RX5, "setSquareLimit", "(I)I"⟩
abbrev cX5_setAcceleration : ByteArray := prog_1_method_24_code
def yX5_setAcceleration : MethodName := ⟨RX5, "setAcceleration", "(I)I"⟩
abbrev cX5_cornerLimit : ByteArray := prog_1_method_25_code
def yX5_cornerLimit : MethodName := ⟨RX5, "cornerLimit", "(I)I"⟩
abbrev cX5_endSquare : ByteArray := prog_1_method_26_code
def yX5_endSquare : MethodName := ⟨RX5, "endSquare", "(I)I"⟩
abbrev cX5_peakSquare : ByteArray := prog_1_method_27_code
def yX5_peakSquare : MethodName := ⟨RX5, "peakSquare", "(I)I"⟩
abbrev cX5_undo : ByteArray := prog_1_method_28_code
def yX5_undo : MethodName := ⟨RX5, "undo", "()I"⟩
abbrev cX5_beginEdit : ByteArray := prog_1_method_29_code
def yX5_beginEdit : MethodName := ⟨RX5, "beginEdit", "()V"⟩
abbrev cX5_codeOrError : ByteArray := prog_1_method_30_code
def yX5_codeOrError : MethodName := ⟨RX5, "codeOrError", "(I)I"⟩
abbrev cX5_isPoint : ByteArray := prog_1_method_31_code
def yX5_isPoint : MethodName := ⟨RX5, "isPoint", "(II)Z"⟩
abbrev cX5_isPen : ByteArray := prog_1_method_32_code
def yX5_isPen : MethodName := ⟨RX5, "isPen", "(I)Z"⟩
abbrev cX5_isWithin : ByteArray := prog_1_method_33_code
def yX5_isWithin : MethodName := ⟨RX5, "isWithin", "(III)Z"⟩
def RX6 : String := "PlotterPlannerModel"
def TX6 : u_T := fun k => match k with
  | 0 => ("PlotterPlannerModel", "now", "[I", true)
  | 1 => ("PlotterPlannerModel", "history", "[I", true)
  | 2 => ("PlotterPlannerModel", "edits", "I", false)
  | 3 => ("PlotterPlannerModel", "penCost", "I", false)
  | 4 => ("PlotterPlannerModel", "limit", "I", false)
  | 5 => ("PlotterPlannerModel", "acceleration", "I", false)
  | 6 => ("PlotterPlannerModel", "rest", "[I", true)
  | 7 => ("PlotterPlannerModel", "best", "[I", true)
  | 8 => ("PlotterPlannerModel", "net", "[I", true)
  | _ => ("PlotterPlannerModel", "ends", "[I", true)
def tyX6 : Nat → FieldType := fun k => match k with
  | 0 => .array .int
  | 1 => .array .int
  | 2 => .int
  | 3 => .int
  | 4 => .int
  | 5 => .int
  | 6 => .array .int
  | 7 => .array .int
  | 8 => .array .int
  | _ => .array .int
abbrev wsX60 : List Cond := u_ws RX6 TX6 10
theorem nmX6 : ∀ a, a < 10 → ∀ b, b < 10 → a ≠ b → (TX6 a).2.1 ≠ (TX6 b).2.1 := by decide +kernel
theorem tyX6_ok : ∀ k, k < 10 → parseFieldDescriptor (TX6 k).2.2.1 = some (tyX6 k) := by decide +kernel
abbrev cX6_init : ByteArray := prog_8_method_1_code
def yX6_init : MethodName := ⟨RX6, "<init>", "()V"⟩
abbrev cX6_in : ByteArray := prog_8_method_2_code
def yX6_in : MethodName := ⟨RX6, "in", "(III)Z"⟩
abbrev cX6_isStroke : ByteArray := prog_8_method_3_code
def yX6_isStroke : MethodName := ⟨RX6, "isStroke", "(I)Z"⟩
abbrev cX6_edit : ByteArray := prog_8_method_4_code
def yX6_edit : MethodName := ⟨RX6, "edit", "()V"⟩
abbrev cX6_undo : ByteArray := prog_8_method_5_code
def yX6_undo : MethodName := ⟨RX6, "undo", "()I"⟩
abbrev cX6_addStroke : ByteArray := prog_8_method_6_code
def yX6_addStroke : MethodName := ⟨RX6, "addStroke", "(IIIII)I"⟩
abbrev cX6_removes : ByteArray := prog_8_method_7_code
def yX6_removes : MethodName := ⟨RX6, "removes", "(I)V"⟩
abbrev cX6_removeStroke : ByteArray := prog_8_method_8_code
def yX6_removeStroke : MethodName := ⟨RX6, "removeStroke", "(I)I"⟩
abbrev cX6_strokeCount : ByteArray := prog_8_method_9_code
def yX6_strokeCount : MethodName := ⟨RX6, "strokeCount", "()I"⟩
abbrev cX6_penAt : ByteArray := prog_8_method_10_code
def yX6_penAt : MethodName := ⟨RX6, "penAt", "(I)I"⟩
abbrev cX6_penOf : ByteArray := prog_8_method_11_code
def yX6_penOf : MethodName := ⟨RX6, "penOf", "(I)I"⟩
abbrev cX6_areAlike : ByteArray := prog_8_method_12_code
def yX6_areAlike : MethodName := ⟨RX6, "areAlike", "(II)Z"⟩
abbrev cX6_alikeTo : ByteArray := prog_8_method_13_code
def yX6_alikeTo : MethodName := ⟨RX6, "alikeTo", "(I)I"⟩
abbrev cX6_isBetween : ByteArray := prog_8_method_14_code
def yX6_isBetween : MethodName := ⟨RX6, "isBetween", "(III)Z"⟩
abbrev cX6_lies : ByteArray := prog_8_method_15_code
def yX6_lies : MethodName := ⟨RX6, "lies", "(III)Z"⟩
abbrev cX6_coveredBy : ByteArray := prog_8_method_16_code
def yX6_coveredBy : MethodName := ⟨RX6, "coveredBy", "(I)I"⟩
abbrev cX6_removeDuplicates : ByteArray := prog_8_method_17_code
def yX6_removeDuplicates : MethodName := ⟨RX6, "removeDuplicates", "()I"⟩
abbrev cX6_isSamePoint : ByteArray := prog_8_method_18_code
def yX6_isSamePoint : MethodName := ⟨RX6, "isSamePoint", "(II)Z"⟩
abbrev cX6_isOfPen : ByteArray := prog_8_method_19_code
def yX6_isOfPen : MethodName := ⟨RX6, "isOfPen", "(II)Z"⟩
abbrev cX6_degree : ByteArray := prog_8_method_20_code
def yX6_degree : MethodName := ⟨RX6, "degree", "(II)I"⟩
abbrev cX6_joins : ByteArray := prog_8_method_21_code
def yX6_joins : MethodName := ⟨RX6, "joins", "(I)V"⟩
abbrev cX6_leastRuns : ByteArray := prog_8_method_22_code
def yX6_leastRuns : MethodName := ⟨RX6, "leastRuns", "(I)I"⟩
abbrev cX6_isPosition : ByteArray := prog_8_method_23_code
def yX6_isPosition : MethodName := ⟨RX6, "isPosition", "(I)Z"⟩
abbrev cX6_at : ByteArray := prog_8_method_24_code
def yX6_at : MethodName := ⟨RX6, "at", "(I)I"⟩
abbrev cX6_strokeAt : ByteArray := prog_8_method_25_code
def yX6_strokeAt : MethodName := ⟨RX6, "strokeAt", "(I)I"⟩
abbrev cX6_directionAt : ByteArray := prog_8_method_26_code
def yX6_directionAt : MethodName := ⟨RX6, "directionAt", "(I)I"⟩
abbrev cX6_movePosition : ByteArray := prog_8_method_27_code
def yX6_movePosition : MethodName := ⟨RX6, "movePosition", "(II)I"⟩
abbrev cX6_turnPosition : ByteArray := prog_8_method_28_code
def yX6_turnPosition : MethodName := ⟨RX6, "turnPosition", "(I)I"⟩
abbrev cX6_begin : ByteArray := prog_8_method_29_code
def yX6_begin : MethodName := ⟨RX6, "begin", "(I)I"⟩
abbrev cX6_end : ByteArray := prog_8_method_30_code
def yX6_end : MethodName := ⟨RX6, "end", "(I)I"⟩
abbrev cX6_far : ByteArray := prog_8_method_31_code
def yX6_far : MethodName := ⟨RX6, "far", "(II)I"⟩
abbrev cX6_step : ByteArray := prog_8_method_32_code
def yX6_step : MethodName := ⟨RX6, "step", "(II)I"⟩
abbrev cX6_cost : ByteArray := prog_8_method_33_code
def yX6_cost : MethodName := ⟨RX6, "cost", "()I"⟩
abbrev cX6_penChanges : ByteArray := prog_8_method_34_code
def yX6_penChanges : MethodName := ⟨RX6, "penChanges", "()I"⟩
abbrev cX6_isLinked : ByteArray := prog_8_method_35_code
def yX6_isLinked : MethodName := ⟨RX6, "isLinked", "(I)Z"⟩
abbrev cX6_runCount : ByteArray := prog_8_method_36_code
def yX6_runCount : MethodName := ⟨RX6, "runCount", "()I"⟩
abbrev cX6_runLength : ByteArray := prog_8_method_37_code
def yX6_runLength : MethodName := ⟨RX6, "runLength", "(I)I"⟩
abbrev cX6_setPenCost : ByteArray := prog_8_method_38_code
def yX6_setPenCost : MethodName := ⟨RX6, "setPenCost", "(I)I"⟩
abbrev cX6_ahead : ByteArray := prog_8_method_39_code
def yX6_ahead : MethodName := ⟨RX6, "ahead", "(II)I"⟩
abbrev cX6_finds : ByteArray := prog_8_method_40_code
def yX6_finds : MethodName := ⟨RX6, "finds", "()I"⟩
abbrev cX6_bestCost : ByteArray := prog_8_method_41_code
def yX6_bestCost : MethodName := ⟨RX6, "bestCost", "()I"⟩
abbrev cX6_bestAt : ByteArray := prog_8_method_42_code
def yX6_bestAt : MethodName := ⟨RX6, "bestAt", "(I)I"⟩
abbrev cX6_adoptBest : ByteArray := prog_8_method_43_code
def yX6_adoptBest : MethodName := ⟨RX6, "adoptBest", "()I"⟩
abbrev cX6_adoptNearest : ByteArray := prog_8_method_44_code
def yX6_adoptNearest : MethodName := ⟨RX6, "adoptNearest", "()I"⟩
abbrev cX6_setSquareLimit : ByteArray := prog_8_method_45_code
def yX6_setSquareLimit : MethodName := ⟨RX6, "setSquareLimit", "(I)I"⟩
abbrev cX6_setAcceleration : ByteArray := prog_8_method_46_code
def yX6_setAcceleration : MethodName := ⟨RX6, "setAcceleration", "(I)I"⟩
abbrev cX6_dx : ByteArray := prog_8_method_47_code
def yX6_dx : MethodName := ⟨RX6, "dx", "(I)I"⟩
abbrev cX6_dy : ByteArray := prog_8_method_48_code
def yX6_dy : MethodName := ⟨RX6, "dy", "(I)I"⟩
abbrev cX6_corner : ByteArray := prog_8_method_49_code
def yX6_corner : MethodName := ⟨RX6, "corner", "(I)I"⟩
abbrev cX6_cornerLimit : ByteArray := prog_8_method_50_code
def yX6_cornerLimit : MethodName := ⟨RX6, "cornerLimit", "(I)I"⟩
abbrev cX6_gain : ByteArray := prog_8_method_51_code
def yX6_gain : MethodName := ⟨RX6, "gain", "(I)I"⟩
abbrev cX6_before : ByteArray := prog_8_method_52_code
def yX6_before : MethodName := ⟨RX6, "before", "(I)I"⟩
abbrev cX6_speeds : ByteArray := prog_8_method_53_code
def yX6_speeds : MethodName := ⟨RX6, "speeds", "()V"⟩
abbrev cX6_endSquare : ByteArray := prog_8_method_54_code
def yX6_endSquare : MethodName := ⟨RX6, "endSquare", "(I)I"⟩
abbrev cX6_peakSquare : ByteArray := prog_8_method_55_code
def yX6_peakSquare : MethodName := ⟨RX6, "peakSquare", "(I)I"⟩
def RJ9 : String := "java/lang/Math"
def TJ9 : u_T := fun k => match k with
  | _ => ("", "", "", false)
def tyJ9 : Nat → FieldType := fun k => match k with
  | _ => .int
abbrev wsJ90 : List Cond := u_ws RJ9 TJ9 0
theorem nmJ9 : ∀ a, a < 0 → ∀ b, b < 0 → a ≠ b → (TJ9 a).2.1 ≠ (TJ9 b).2.1 := by decide +kernel
theorem tyJ9_ok : ∀ k, k < 0 → parseFieldDescriptor (TJ9 k).2.2.1 = some (tyJ9 k) := by decide +kernel
abbrev cJ9_abs_0f7a4 : ByteArray := prog_9_method_59_code
def yJ9_abs_0f7a4 : MethodName := ⟨RJ9, "abs", "(I)I"⟩
abbrev cJ9_max_7cf53 : ByteArray := prog_9_method_65_code
def yJ9_max_7cf53 : MethodName := ⟨RJ9, "max", "(II)I"⟩
abbrev cJ9_min_7cf53 : ByteArray := prog_9_method_69_code
def yJ9_min_7cf53 : MethodName := ⟨RJ9, "min", "(II)I"⟩
def RJ10 : String := "java/lang/System"
def TJ10 : u_T := fun k => match k with
  | _ => ("", "", "", false)
def tyJ10 : Nat → FieldType := fun k => match k with
  | _ => .int
abbrev wsJ100 : List Cond := u_ws RJ10 TJ10 0
theorem nmJ10 : ∀ a, a < 0 → ∀ b, b < 0 → a ≠ b → (TJ10 a).2.1 ≠ (TJ10 b).2.1 := by decide +kernel
theorem tyJ10_ok : ∀ k, k < 0 → parseFieldDescriptor (TJ10 k).2.2.1 = some (tyJ10 k) := by decide +kernel
def RL : String := "PlotterPlannerLaw"
abbrev cL_law : ByteArray := code
def yL_law : MethodName := ⟨RL, "law", "([I)Z"⟩
def wsJ9_abs_0f7a4 : List Cond := .code yJ9_abs_0f7a4 cJ9_abs_0f7a4 1 (some .int) :: ([])
def wsJ9_max_7cf53 : List Cond := .code yJ9_max_7cf53 cJ9_max_7cf53 2 (some .int) :: ([])
def wsJ9_min_7cf53 : List Cond := .code yJ9_min_7cf53 cJ9_min_7cf53 2 (some .int) :: ([])
theorem inJ9 : ∀ w ∈ wsJ90, w ∈ lw_tbl := by decide +kernel
theorem inJ10 : ∀ w ∈ wsJ100, w ∈ lw_tbl := by decide +kernel
theorem dJ9_abs_0f7a4_0 : decode cJ9_abs_0f7a4 0 = .ok (.iload_n 0, 1) := by decide +kernel
theorem dJ9_abs_0f7a4_1 : decode cJ9_abs_0f7a4 1 = .ok (.ifCond .ge 8, 3) := by decide +kernel
theorem dJ9_abs_0f7a4_4 : decode cJ9_abs_0f7a4 4 = .ok (.iload_n 0, 1) := by decide +kernel
theorem dJ9_abs_0f7a4_5 : decode cJ9_abs_0f7a4 5 = .ok (.ineg, 1) := by decide +kernel
theorem dJ9_abs_0f7a4_6 : decode cJ9_abs_0f7a4 6 = .ok (.goto 4, 3) := by decide +kernel
theorem dJ9_abs_0f7a4_9 : decode cJ9_abs_0f7a4 9 = .ok (.iload_n 0, 1) := by decide +kernel
theorem dJ9_abs_0f7a4_10 : decode cJ9_abs_0f7a4 10 = .ok (.ireturn, 1) := by decide +kernel
theorem dJ9_max_7cf53_0 : decode cJ9_max_7cf53 0 = .ok (.iload_n 0, 1) := by decide +kernel
theorem dJ9_max_7cf53_1 : decode cJ9_max_7cf53 1 = .ok (.iload_n 1, 1) := by decide +kernel
theorem dJ9_max_7cf53_2 : decode cJ9_max_7cf53 2 = .ok (.if_icmp .lt 7, 3) := by decide +kernel
theorem dJ9_max_7cf53_5 : decode cJ9_max_7cf53 5 = .ok (.iload_n 0, 1) := by decide +kernel
theorem dJ9_max_7cf53_6 : decode cJ9_max_7cf53 6 = .ok (.goto 4, 3) := by decide +kernel
theorem dJ9_max_7cf53_9 : decode cJ9_max_7cf53 9 = .ok (.iload_n 1, 1) := by decide +kernel
theorem dJ9_max_7cf53_10 : decode cJ9_max_7cf53 10 = .ok (.ireturn, 1) := by decide +kernel
theorem dJ9_min_7cf53_0 : decode cJ9_min_7cf53 0 = .ok (.iload_n 0, 1) := by decide +kernel
theorem dJ9_min_7cf53_1 : decode cJ9_min_7cf53 1 = .ok (.iload_n 1, 1) := by decide +kernel
theorem dJ9_min_7cf53_2 : decode cJ9_min_7cf53 2 = .ok (.if_icmp .gt 7, 3) := by decide +kernel
theorem dJ9_min_7cf53_5 : decode cJ9_min_7cf53 5 = .ok (.iload_n 0, 1) := by decide +kernel
theorem dJ9_min_7cf53_6 : decode cJ9_min_7cf53 6 = .ok (.goto 4, 3) := by decide +kernel
theorem dJ9_min_7cf53_9 : decode cJ9_min_7cf53 9 = .ok (.iload_n 1, 1) := by decide +kernel
theorem dJ9_min_7cf53_10 : decode cJ9_min_7cf53 10 = .ok (.ireturn, 1) := by decide +kernel
abbrev vwCl : List vw_C := [(RX0, TX0, 6), (RX1, TX1, 5), (RX2, TX2, 3), (RX3, TX3, 1), (RX4, TX4, 1), (RX5, TX5, 8), (RX6, TX6, 10)]

/-- the words of the tables that every method may use -/
def wU : List Cond := lw_tbl.filter goodWord
theorem wU_tbl : ∀ w ∈ wU, w ∈ lw_tbl := fun w h => (List.mem_filter.mp h).1
theorem wU_good : ∀ w ∈ wU, goodWord w = true := fun w h => (List.mem_filter.mp h).2
theorem wU_of {w : Cond} {i : Nat} (h : lw_tbl[i]? = some w) (hg : goodWord w = true) : w ∈ wU := List.mem_filter.mpr ⟨List.mem_of_getElem? h, hg⟩
theorem wU_ofs (ws : List Cond) (ps : List Nat) (hp : ws = ps.filterMap (fun i => lw_tbl[i]?)) (h : ws.all goodWord = true) : ∀ w ∈ ws, w ∈ wU := by
  intro w hw
  have h1 := List.all_eq_true.mp h w hw
  rw [hp] at hw
  obtain ⟨i, -, hi⟩ := List.mem_filterMap.mp hw
  exact wU_of hi h1
theorem wU_ofd (ws : List Cond) (hp : ∀ w ∈ ws, w ∈ lw_tbl) (h : ws.all goodWord = true) : ∀ w ∈ ws, w ∈ wU := fun w hw => List.mem_filter.mpr ⟨hp w hw, List.all_eq_true.mp h w hw⟩
theorem zU {c1 c2 : Cond} (h : c2 ∈ wU) : GoodIn (c1 :: wU) (c2 :: wU) := by
  intro w hw
  have hm : w ∈ wU := by
    rcases List.mem_cons.mp hw with e | e
    · rw [e]; exact h
    · exact e
  exact ⟨List.mem_cons_of_mem _ hm, good_of_word (wU_good w hm)⟩
theorem zU0 {c2 : Cond} (h : c2 ∈ wU) : GoodIn wU (c2 :: wU) := by
  intro w hw
  have hm : w ∈ wU := by
    rcases List.mem_cons.mp hw with e | e
    · rw [e]; exact h
    · exact e
  exact ⟨hm, good_of_word (wU_good w hm)⟩
theorem zUV {c1 c2 : Cond} {own C : String} {idx : Nat} {y : MethodName} (h : c2 ∈ wU) (h1 : Cond.methodLink own idx y ∈ wU) (h2 : Cond.instanceMethod y ∈ wU) (h3 : Cond.selects C y y ∈ wU) (h4 : Cond.initialized C ∈ wU) : GoodIn (c1 :: wU) (wsV own idx C y (c2 :: wU)) := by
  intro w hw
  unfold wsV at hw
  rcases List.mem_append.mp hw with q | q
  · have hm : w ∈ wU := by
      simp only [List.mem_cons, List.not_mem_nil, or_false] at q
      rcases q with e | e | e | e <;> rw [e] <;> assumption
    exact ⟨List.mem_cons_of_mem _ hm, good_of_word (wU_good w hm)⟩
  · exact zU h w q
theorem zUS {c1 c2 : Cond} {own : String} {idx : Nat} {y : MethodName} (h : c2 ∈ wU) (h1 : Cond.methodLink own idx y ∈ wU) (h2 : Cond.static y ∈ wU) (h4 : Cond.initialized y.cls ∈ wU) : GoodIn (c1 :: wU) (va_wsS own idx y (c2 :: wU)) := by
  intro w hw
  unfold va_wsS at hw
  rcases List.mem_append.mp hw with q | q
  · have hm : w ∈ wU := by
      simp only [List.mem_cons, List.not_mem_nil, or_false] at q
      rcases q with e | e | e <;> rw [e] <;> assumption
    exact ⟨List.mem_cons_of_mem _ hm, good_of_word (wU_good w hm)⟩
  · exact zU h w q
theorem wd_0 : Cond.classLink RL 7 RX5 ∈ wU := wU_of (i := 58) (by decide +kernel) (by decide +kernel)
theorem wd_1 : Cond.instantiable RX5 8 ∈ wU := wU_of (i := 59) (by decide +kernel) (by decide +kernel)
theorem wd_2 : Cond.initialized RX5 ∈ wU := wU_of (i := 49) (by decide +kernel) (by decide +kernel)
theorem wd_3 : Cond.classLink RL 10 RX6 ∈ wU := wU_of (i := 595) (by decide +kernel) (by decide +kernel)
theorem wd_4 : Cond.instantiable RX6 10 ∈ wU := wU_of (i := 596) (by decide +kernel) (by decide +kernel)
theorem wd_5 : Cond.initialized RX6 ∈ wU := wU_of (i := 55) (by decide +kernel) (by decide +kernel)
theorem wd_6 : Cond.methodLink RL 9 yX5_init ∈ wU := wU_of (i := 60) (by decide +kernel) (by decide +kernel)
theorem wd_7 : Cond.instanceMethod yX5_init ∈ wU := wU_of (i := 61) (by decide +kernel) (by decide +kernel)
set_option maxRecDepth 20000 in
theorem wd_8 : Cond.code yX5_init cX5_init 1 none ∈ wU := wU_of (i := 62) rfl rfl
theorem wd_9 : Cond.methodLink RX5 3 objectInit ∈ wU := wU_of (i := 63) (by decide +kernel) (by decide +kernel)
theorem wd_10 : Cond.instanceMethod objectInit ∈ wU := wU_of (i := 64) (by decide +kernel) (by decide +kernel)
set_option maxRecDepth 20000 in
theorem wd_11 : Cond.code objectInit ⟨#[0xb1]⟩ 1 none ∈ wU := wU_of (i := 65) rfl rfl
theorem wd_12 : Cond.classLink RX5 9 RX1 ∈ wU := wU_of (i := 66) (by decide +kernel) (by decide +kernel)
theorem wd_13 : Cond.instantiable RX1 5 ∈ wU := wU_of (i := 67) (by decide +kernel) (by decide +kernel)
theorem wd_14 : Cond.initialized RX1 ∈ wU := wU_of (i := 50) (by decide +kernel) (by decide +kernel)
theorem wd_15 : Cond.fieldLink RX5 12 "PlotterPlanner" "drawing" "LPlotterPlanner$Drawing;" ∈ wU := wU_of (i := 153) (by decide +kernel) (by decide +kernel)
theorem wd_16 : Cond.classLink RX5 16 RX2 ∈ wU := wU_of (i := 89) (by decide +kernel) (by decide +kernel)
theorem wd_17 : Cond.instantiable RX2 3 ∈ wU := wU_of (i := 90) (by decide +kernel) (by decide +kernel)
theorem wd_18 : Cond.initialized RX2 ∈ wU := wU_of (i := 51) (by decide +kernel) (by decide +kernel)
theorem wd_19 : Cond.fieldLink RX5 19 "PlotterPlanner" "history" "LPlotterPlanner$History;" ∈ wU := wU_of (i := 154) (by decide +kernel) (by decide +kernel)
theorem wd_20 : Cond.classLink RX5 23 RX0 ∈ wU := wU_of (i := 108) (by decide +kernel) (by decide +kernel)
theorem wd_21 : Cond.instantiable RX0 6 ∈ wU := wU_of (i := 109) (by decide +kernel) (by decide +kernel)
theorem wd_22 : Cond.initialized RX0 ∈ wU := wU_of (i := 52) (by decide +kernel) (by decide +kernel)
theorem wd_23 : Cond.fieldLink RX5 26 "PlotterPlanner" "best" "LPlotterPlanner$BestPlan;" ∈ wU := wU_of (i := 155) (by decide +kernel) (by decide +kernel)
theorem wd_24 : Cond.classLink RX5 30 RX3 ∈ wU := wU_of (i := 133) (by decide +kernel) (by decide +kernel)
theorem wd_25 : Cond.instantiable RX3 1 ∈ wU := wU_of (i := 134) (by decide +kernel) (by decide +kernel)
theorem wd_26 : Cond.initialized RX3 ∈ wU := wU_of (i := 53) (by decide +kernel) (by decide +kernel)
theorem wd_27 : Cond.fieldLink RX5 33 "PlotterPlanner" "graph" "LPlotterPlanner$RunGraph;" ∈ wU := wU_of (i := 156) (by decide +kernel) (by decide +kernel)
theorem wd_28 : Cond.classLink RX5 37 RX4 ∈ wU := wU_of (i := 143) (by decide +kernel) (by decide +kernel)
theorem wd_29 : Cond.instantiable RX4 1 ∈ wU := wU_of (i := 144) (by decide +kernel) (by decide +kernel)
theorem wd_30 : Cond.initialized RX4 ∈ wU := wU_of (i := 54) (by decide +kernel) (by decide +kernel)
theorem wd_31 : Cond.fieldLink RX5 40 "PlotterPlanner" "speeds" "LPlotterPlanner$Speeds;" ∈ wU := wU_of (i := 157) (by decide +kernel) (by decide +kernel)
theorem wd_32 : Cond.fieldLink RX5 44 "PlotterPlanner" "penCost" "I" ∈ wU := wU_of (i := 158) (by decide +kernel) (by decide +kernel)
theorem wd_33 : Cond.fieldLink RX5 48 "PlotterPlanner" "squareLimit" "I" ∈ wU := wU_of (i := 159) (by decide +kernel) (by decide +kernel)
theorem wd_34 : Cond.fieldLink RX5 51 "PlotterPlanner" "acceleration" "I" ∈ wU := wU_of (i := 160) (by decide +kernel) (by decide +kernel)
theorem wd_35 : Cond.instanceMethod yX1_init ∈ wU := wU_of (i := 69) (by decide +kernel) (by decide +kernel)
set_option maxRecDepth 20000 in
theorem wd_36 : Cond.code yX1_init cX1_init 1 none ∈ wU := wU_of (i := 70) rfl rfl
theorem wd_37 : Cond.methodLink RX1 3 objectInit ∈ wU := wU_of (i := 71) (by decide +kernel) (by decide +kernel)
theorem wd_38 : Cond.arrayClass .int ∈ wU := wU_of (i := 88) (by decide +kernel) (by decide +kernel)
theorem wd_39 : Cond.fieldLink RX1 9 "PlotterPlanner$Drawing" "pens" "[I" ∈ wU := wU_of (i := 73) (by decide +kernel) (by decide +kernel)
theorem wd_40 : Cond.fieldLink RX1 15 "PlotterPlanner$Drawing" "beginX" "[I" ∈ wU := wU_of (i := 74) (by decide +kernel) (by decide +kernel)
theorem wd_41 : Cond.fieldLink RX1 18 "PlotterPlanner$Drawing" "beginY" "[I" ∈ wU := wU_of (i := 75) (by decide +kernel) (by decide +kernel)
theorem wd_42 : Cond.fieldLink RX1 21 "PlotterPlanner$Drawing" "plan" "[I" ∈ wU := wU_of (i := 76) (by decide +kernel) (by decide +kernel)
theorem wd_43 : Cond.methodLink RX5 18 yX2_init ∈ wU := wU_of (i := 91) (by decide +kernel) (by decide +kernel)
theorem wd_44 : Cond.instanceMethod yX2_init ∈ wU := wU_of (i := 92) (by decide +kernel) (by decide +kernel)
set_option maxRecDepth 20000 in
theorem wd_45 : Cond.code yX2_init cX2_init 2 none ∈ wU := wU_of (i := 93) rfl rfl
theorem wd_46 : Cond.methodLink RX2 3 objectInit ∈ wU := wU_of (i := 94) (by decide +kernel) (by decide +kernel)
theorem wd_47 : Cond.classLink RX2 9 RX1 ∈ wU := wU_of (i := 95) (by decide +kernel) (by decide +kernel)
theorem wd_48 : Cond.fieldLink RX2 11 "PlotterPlanner$History" "ring" "[LPlotterPlanner$Drawing;" ∈ wU := wU_of (i := 98) (by decide +kernel) (by decide +kernel)
theorem wd_49 : Cond.instanceMethod yX0_init ∈ wU := wU_of (i := 111) (by decide +kernel) (by decide +kernel)
set_option maxRecDepth 20000 in
theorem wd_50 : Cond.code yX0_init cX0_init 1 none ∈ wU := wU_of (i := 112) rfl rfl
theorem wd_51 : Cond.methodLink RX0 3 objectInit ∈ wU := wU_of (i := 113) (by decide +kernel) (by decide +kernel)
theorem wd_52 : Cond.fieldLink RX0 9 "PlotterPlanner$BestPlan" "steps" "[I" ∈ wU := wU_of (i := 114) (by decide +kernel) (by decide +kernel)
theorem wd_53 : Cond.fieldLink RX0 15 "PlotterPlanner$BestPlan" "rests" "[I" ∈ wU := wU_of (i := 115) (by decide +kernel) (by decide +kernel)
theorem wd_54 : Cond.fieldLink RX0 18 "PlotterPlanner$BestPlan" "codes" "[I" ∈ wU := wU_of (i := 116) (by decide +kernel) (by decide +kernel)
theorem wd_55 : Cond.instanceMethod yX3_init ∈ wU := wU_of (i := 136) (by decide +kernel) (by decide +kernel)
set_option maxRecDepth 20000 in
theorem wd_56 : Cond.code yX3_init cX3_init 1 none ∈ wU := wU_of (i := 137) rfl rfl
theorem wd_57 : Cond.methodLink RX3 3 objectInit ∈ wU := wU_of (i := 138) (by decide +kernel) (by decide +kernel)
theorem wd_58 : Cond.fieldLink RX3 9 "PlotterPlanner$RunGraph" "components" "[I" ∈ wU := wU_of (i := 139) (by decide +kernel) (by decide +kernel)
theorem wd_59 : Cond.instanceMethod yX4_init ∈ wU := wU_of (i := 146) (by decide +kernel) (by decide +kernel)
set_option maxRecDepth 20000 in
theorem wd_60 : Cond.code yX4_init cX4_init 1 none ∈ wU := wU_of (i := 147) rfl rfl
theorem wd_61 : Cond.methodLink RX4 3 objectInit ∈ wU := wU_of (i := 148) (by decide +kernel) (by decide +kernel)
theorem wd_62 : Cond.fieldLink RX4 9 "PlotterPlanner$Speeds" "ends" "[I" ∈ wU := wU_of (i := 149) (by decide +kernel) (by decide +kernel)
theorem wd_63 : Cond.methodLink RL 12 yX6_init ∈ wU := wU_of (i := 597) (by decide +kernel) (by decide +kernel)
theorem wd_64 : Cond.instanceMethod yX6_init ∈ wU := wU_of (i := 598) (by decide +kernel) (by decide +kernel)
set_option maxRecDepth 20000 in
theorem wd_65 : Cond.code yX6_init cX6_init 1 none ∈ wU := wU_of (i := 599) rfl rfl
theorem wd_66 : Cond.methodLink RX6 1 objectInit ∈ wU := wU_of (i := 600) (by decide +kernel) (by decide +kernel)
theorem wd_67 : Cond.fieldLink RX6 7 "PlotterPlannerModel" "now" "[I" ∈ wU := wU_of (i := 601) (by decide +kernel) (by decide +kernel)
theorem wd_68 : Cond.fieldLink RX6 13 "PlotterPlannerModel" "history" "[I" ∈ wU := wU_of (i := 602) (by decide +kernel) (by decide +kernel)
theorem wd_69 : Cond.fieldLink RX6 16 "PlotterPlannerModel" "penCost" "I" ∈ wU := wU_of (i := 604) (by decide +kernel) (by decide +kernel)
theorem wd_70 : Cond.fieldLink RX6 20 "PlotterPlannerModel" "limit" "I" ∈ wU := wU_of (i := 605) (by decide +kernel) (by decide +kernel)
theorem wd_71 : Cond.fieldLink RX6 23 "PlotterPlannerModel" "acceleration" "I" ∈ wU := wU_of (i := 606) (by decide +kernel) (by decide +kernel)
theorem wd_72 : Cond.fieldLink RX6 26 "PlotterPlannerModel" "rest" "[I" ∈ wU := wU_of (i := 607) (by decide +kernel) (by decide +kernel)
theorem wd_73 : Cond.fieldLink RX6 29 "PlotterPlannerModel" "best" "[I" ∈ wU := wU_of (i := 608) (by decide +kernel) (by decide +kernel)
theorem wd_74 : Cond.fieldLink RX6 32 "PlotterPlannerModel" "net" "[I" ∈ wU := wU_of (i := 609) (by decide +kernel) (by decide +kernel)
theorem wd_75 : Cond.fieldLink RX6 35 "PlotterPlannerModel" "ends" "[I" ∈ wU := wU_of (i := 610) (by decide +kernel) (by decide +kernel)
theorem wd_76 : Cond.methodLink RL 13 yX5_addStroke ∈ wU := wU_of (i := 178) (by decide +kernel) (by decide +kernel)
theorem wd_77 : Cond.instanceMethod yX5_addStroke ∈ wU := wU_of (i := 179) (by decide +kernel) (by decide +kernel)
theorem wd_78 : Cond.selects RX5 yX5_addStroke yX5_addStroke ∈ wU := wU_of (i := 180) (by decide +kernel) (by decide +kernel)
set_option maxRecDepth 20000 in
theorem wd_79 : Cond.code yX5_addStroke cX5_addStroke 6 (some .int) ∈ wU := wU_of (i := 181) rfl rfl
theorem wd_80 : Cond.methodLink RX5 54 yX5_isPoint ∈ wU := wU_of (i := 182) (by decide +kernel) (by decide +kernel)
theorem wd_81 : Cond.static yX5_isPoint ∈ wU := wU_of (i := 183) (by decide +kernel) (by decide +kernel)
set_option maxRecDepth 20000 in
theorem wd_82 : Cond.code yX5_isPoint cX5_isPoint 2 (some .boolean) ∈ wU := wU_of (i := 184) rfl rfl
theorem wd_83 : Cond.methodLink RX5 125 yX5_isWithin ∈ wU := wU_of (i := 185) (by decide +kernel) (by decide +kernel)
theorem wd_84 : Cond.static yX5_isWithin ∈ wU := wU_of (i := 186) (by decide +kernel) (by decide +kernel)
set_option maxRecDepth 20000 in
theorem wd_85 : Cond.code yX5_isWithin cX5_isWithin 3 (some .boolean) ∈ wU := wU_of (i := 187) rfl rfl
theorem wd_86 : Cond.methodLink RX5 58 yX5_isPen ∈ wU := wU_of (i := 188) (by decide +kernel) (by decide +kernel)
theorem wd_87 : Cond.static yX5_isPen ∈ wU := wU_of (i := 189) (by decide +kernel) (by decide +kernel)
set_option maxRecDepth 20000 in
theorem wd_88 : Cond.code yX5_isPen cX5_isPen 1 (some .boolean) ∈ wU := wU_of (i := 190) rfl rfl
theorem wd_89 : Cond.methodLink RX5 62 yX1_size ∈ wU := wU_of (i := 191) (by decide +kernel) (by decide +kernel)
theorem wd_90 : Cond.instanceMethod yX1_size ∈ wU := wU_of (i := 192) (by decide +kernel) (by decide +kernel)
theorem wd_91 : Cond.selects RX1 yX1_size yX1_size ∈ wU := wU_of (i := 193) (by decide +kernel) (by decide +kernel)
set_option maxRecDepth 20000 in
theorem wd_92 : Cond.code yX1_size cX1_size 1 (some .int) ∈ wU := wU_of (i := 194) rfl rfl
theorem wd_93 : Cond.fieldLink RX1 24 "PlotterPlanner$Drawing" "size" "I" ∈ wU := wU_of (i := 72) (by decide +kernel) (by decide +kernel)
theorem wd_94 : Cond.methodLink RX5 66 yX5_beginEdit ∈ wU := wU_of (i := 195) (by decide +kernel) (by decide +kernel)
theorem wd_95 : Cond.instanceMethod yX5_beginEdit ∈ wU := wU_of (i := 197) (by decide +kernel) (by decide +kernel)
theorem wd_96 : Cond.selects RX5 yX5_beginEdit yX5_beginEdit ∈ wU := wU_of (i := 0) (by decide +kernel) (by decide +kernel)
set_option maxRecDepth 20000 in
theorem wd_97 : Cond.code yX5_beginEdit cX5_beginEdit 1 none ∈ wU := wU_of (i := 198) rfl rfl
theorem wd_98 : Cond.methodLink RX5 182 yX2_keep ∈ wU := wU_of (i := 199) (by decide +kernel) (by decide +kernel)
theorem wd_99 : Cond.instanceMethod yX2_keep ∈ wU := wU_of (i := 200) (by decide +kernel) (by decide +kernel)
theorem wd_100 : Cond.selects RX2 yX2_keep yX2_keep ∈ wU := wU_of (i := 201) (by decide +kernel) (by decide +kernel)
set_option maxRecDepth 20000 in
theorem wd_101 : Cond.code yX2_keep cX2_keep 3 none ∈ wU := wU_of (i := 202) rfl rfl
theorem wd_102 : Cond.fieldLink RX2 22 "PlotterPlanner$History" "next" "I" ∈ wU := wU_of (i := 99) (by decide +kernel) (by decide +kernel)
theorem wd_103 : Cond.fieldLink RX2 18 "PlotterPlanner$History" "depth" "I" ∈ wU := wU_of (i := 100) (by decide +kernel) (by decide +kernel)
theorem wd_104 : Cond.methodLink RX2 33 Lib.Math.min.name ∈ wU := wU_of (i := 214) (by decide +kernel) (by decide +kernel)
theorem wd_105 : Cond.static Lib.Math.min.name ∈ wU := wU_of (i := 215) (by decide +kernel) (by decide +kernel)
theorem wd_106 : Cond.initialized "java/lang/Math" ∈ wU := wU_of (i := 57) (by decide +kernel) (by decide +kernel)
set_option maxRecDepth 20000 in
theorem wd_107 : Cond.code Lib.Math.min.name Lib.Math.min.code 2 (some .int) ∈ wU := wU_of (i := 216) rfl rfl
theorem wd_108 : Cond.methodLink RX2 25 yX2_slotAt ∈ wU := wU_of (i := 203) (by decide +kernel) (by decide +kernel)
theorem wd_109 : Cond.instanceMethod yX2_slotAt ∈ wU := wU_of (i := 205) (by decide +kernel) (by decide +kernel)
theorem wd_110 : Cond.selects RX2 yX2_slotAt yX2_slotAt ∈ wU := wU_of (i := 1) (by decide +kernel) (by decide +kernel)
set_option maxRecDepth 20000 in
theorem wd_111 : Cond.code yX2_slotAt cX2_slotAt 2 (some (.object "PlotterPlanner$Drawing")) ∈ wU := wU_of (i := 206) rfl rfl
theorem wd_112 : Cond.methodLink RX2 29 yX1_copyFrom ∈ wU := wU_of (i := 207) (by decide +kernel) (by decide +kernel)
theorem wd_113 : Cond.instanceMethod yX1_copyFrom ∈ wU := wU_of (i := 208) (by decide +kernel) (by decide +kernel)
theorem wd_114 : Cond.selects RX1 yX1_copyFrom yX1_copyFrom ∈ wU := wU_of (i := 209) (by decide +kernel) (by decide +kernel)
set_option maxRecDepth 20000 in
theorem wd_115 : Cond.code yX1_copyFrom cX1_copyFrom 2 none ∈ wU := wU_of (i := 210) rfl rfl
theorem wd_116 : Cond.methodLink RX1 38 arraycopyName ∈ wU := wU_of (i := 211) (by decide +kernel) (by decide +kernel)
theorem wd_117 : Cond.native arraycopyName ∈ wU := wU_of (i := 213) (by decide +kernel) (by decide +kernel)
theorem wd_118 : Cond.static arraycopyName ∈ wU := wU_of (i := 212) (by decide +kernel) (by decide +kernel)
theorem wd_119 : Cond.initialized "java/lang/System" ∈ wU := wU_of (i := 56) (by decide +kernel) (by decide +kernel)
theorem wd_120 : Cond.methodLink RX5 129 yX0_forget ∈ wU := wU_of (i := 217) (by decide +kernel) (by decide +kernel)
theorem wd_121 : Cond.instanceMethod yX0_forget ∈ wU := wU_of (i := 218) (by decide +kernel) (by decide +kernel)
theorem wd_122 : Cond.selects RX0 yX0_forget yX0_forget ∈ wU := wU_of (i := 219) (by decide +kernel) (by decide +kernel)
set_option maxRecDepth 20000 in
theorem wd_123 : Cond.code yX0_forget cX0_forget 1 none ∈ wU := wU_of (i := 220) rfl rfl
theorem wd_124 : Cond.fieldLink RX0 21 "PlotterPlanner$BestPlan" "known" "Z" ∈ wU := wU_of (i := 119) (by decide +kernel) (by decide +kernel)
theorem wd_125 : Cond.methodLink RX5 69 yX1_append ∈ wU := wU_of (i := 221) (by decide +kernel) (by decide +kernel)
theorem wd_126 : Cond.instanceMethod yX1_append ∈ wU := wU_of (i := 222) (by decide +kernel) (by decide +kernel)
theorem wd_127 : Cond.selects RX1 yX1_append yX1_append ∈ wU := wU_of (i := 223) (by decide +kernel) (by decide +kernel)
set_option maxRecDepth 20000 in
theorem wd_128 : Cond.code yX1_append cX1_append 7 (some .int) ∈ wU := wU_of (i := 224) rfl rfl
theorem wd_129 : Cond.methodLink RL 17 yX6_addStroke ∈ wU := wU_of (i := 636) (by decide +kernel) (by decide +kernel)
theorem wd_130 : Cond.instanceMethod yX6_addStroke ∈ wU := wU_of (i := 637) (by decide +kernel) (by decide +kernel)
theorem wd_131 : Cond.selects RX6 yX6_addStroke yX6_addStroke ∈ wU := wU_of (i := 638) (by decide +kernel) (by decide +kernel)
set_option maxRecDepth 20000 in
theorem wd_132 : Cond.code yX6_addStroke cX6_addStroke 8 (some .int) ∈ wU := wU_of (i := 639) rfl rfl
theorem wd_133 : Cond.methodLink RX6 38 yX6_in ∈ wU := wU_of (i := 640) (by decide +kernel) (by decide +kernel)
theorem wd_134 : Cond.static yX6_in ∈ wU := wU_of (i := 641) (by decide +kernel) (by decide +kernel)
set_option maxRecDepth 20000 in
theorem wd_135 : Cond.code yX6_in cX6_in 3 (some .boolean) ∈ wU := wU_of (i := 642) rfl rfl
theorem wd_136 : Cond.methodLink RX6 45 yX6_edit ∈ wU := wU_of (i := 643) (by decide +kernel) (by decide +kernel)
theorem wd_137 : Cond.instanceMethod yX6_edit ∈ wU := wU_of (i := 645) (by decide +kernel) (by decide +kernel)
theorem wd_138 : Cond.selects RX6 yX6_edit yX6_edit ∈ wU := wU_of (i := 26) (by decide +kernel) (by decide +kernel)
set_option maxRecDepth 20000 in
theorem wd_139 : Cond.code yX6_edit cX6_edit 2 none ∈ wU := wU_of (i := 646) rfl rfl
theorem wd_140 : Cond.fieldLink RX6 42 "PlotterPlannerModel" "edits" "I" ∈ wU := wU_of (i := 603) (by decide +kernel) (by decide +kernel)
theorem wd_141 : Cond.methodLink RL 18 yX5_removeStroke ∈ wU := wU_of (i := 225) (by decide +kernel) (by decide +kernel)
theorem wd_142 : Cond.instanceMethod yX5_removeStroke ∈ wU := wU_of (i := 226) (by decide +kernel) (by decide +kernel)
theorem wd_143 : Cond.selects RX5 yX5_removeStroke yX5_removeStroke ∈ wU := wU_of (i := 227) (by decide +kernel) (by decide +kernel)
set_option maxRecDepth 20000 in
theorem wd_144 : Cond.code yX5_removeStroke cX5_removeStroke 2 (some .int) ∈ wU := wU_of (i := 228) rfl rfl
theorem wd_145 : Cond.methodLink RX5 73 yX1_hasStroke ∈ wU := wU_of (i := 229) (by decide +kernel) (by decide +kernel)
theorem wd_146 : Cond.instanceMethod yX1_hasStroke ∈ wU := wU_of (i := 230) (by decide +kernel) (by decide +kernel)
theorem wd_147 : Cond.selects RX1 yX1_hasStroke yX1_hasStroke ∈ wU := wU_of (i := 231) (by decide +kernel) (by decide +kernel)
set_option maxRecDepth 20000 in
theorem wd_148 : Cond.code yX1_hasStroke cX1_hasStroke 2 (some .boolean) ∈ wU := wU_of (i := 232) rfl rfl
theorem wd_149 : Cond.methodLink RX5 76 yX1_drop ∈ wU := wU_of (i := 233) (by decide +kernel) (by decide +kernel)
theorem wd_150 : Cond.instanceMethod yX1_drop ∈ wU := wU_of (i := 234) (by decide +kernel) (by decide +kernel)
theorem wd_151 : Cond.selects RX1 yX1_drop yX1_drop ∈ wU := wU_of (i := 235) (by decide +kernel) (by decide +kernel)
set_option maxRecDepth 20000 in
theorem wd_152 : Cond.code yX1_drop cX1_drop 3 none ∈ wU := wU_of (i := 236) rfl rfl
theorem wd_153 : Cond.methodLink RX1 28 yX1_hasStroke ∈ wU := wU_of (i := 237) (by decide +kernel) (by decide +kernel)
theorem wd_154 : Cond.methodLink RX1 44 yX1_dropFromPlan ∈ wU := wU_of (i := 238) (by decide +kernel) (by decide +kernel)
theorem wd_155 : Cond.instanceMethod yX1_dropFromPlan ∈ wU := wU_of (i := 240) (by decide +kernel) (by decide +kernel)
theorem wd_156 : Cond.selects RX1 yX1_dropFromPlan yX1_dropFromPlan ∈ wU := wU_of (i := 2) (by decide +kernel) (by decide +kernel)
set_option maxRecDepth 20000 in
theorem wd_157 : Cond.code yX1_dropFromPlan cX1_dropFromPlan 5 none ∈ wU := wU_of (i := 241) rfl rfl
theorem wd_158 : Cond.methodLink RL 22 yX6_removeStroke ∈ wU := wU_of (i := 647) (by decide +kernel) (by decide +kernel)
theorem wd_159 : Cond.instanceMethod yX6_removeStroke ∈ wU := wU_of (i := 648) (by decide +kernel) (by decide +kernel)
theorem wd_160 : Cond.selects RX6 yX6_removeStroke yX6_removeStroke ∈ wU := wU_of (i := 649) (by decide +kernel) (by decide +kernel)
set_option maxRecDepth 20000 in
theorem wd_161 : Cond.code yX6_removeStroke cX6_removeStroke 2 (some .int) ∈ wU := wU_of (i := 650) rfl rfl
theorem wd_162 : Cond.methodLink RX6 48 yX6_isStroke ∈ wU := wU_of (i := 651) (by decide +kernel) (by decide +kernel)
theorem wd_163 : Cond.instanceMethod yX6_isStroke ∈ wU := wU_of (i := 653) (by decide +kernel) (by decide +kernel)
theorem wd_164 : Cond.selects RX6 yX6_isStroke yX6_isStroke ∈ wU := wU_of (i := 27) (by decide +kernel) (by decide +kernel)
set_option maxRecDepth 20000 in
theorem wd_165 : Cond.code yX6_isStroke cX6_isStroke 2 (some .boolean) ∈ wU := wU_of (i := 654) rfl rfl
theorem wd_166 : Cond.methodLink RX6 52 yX6_removes ∈ wU := wU_of (i := 655) (by decide +kernel) (by decide +kernel)
theorem wd_167 : Cond.instanceMethod yX6_removes ∈ wU := wU_of (i := 657) (by decide +kernel) (by decide +kernel)
theorem wd_168 : Cond.selects RX6 yX6_removes yX6_removes ∈ wU := wU_of (i := 28) (by decide +kernel) (by decide +kernel)
set_option maxRecDepth 20000 in
theorem wd_169 : Cond.code yX6_removes cX6_removes 4 none ∈ wU := wU_of (i := 658) rfl rfl
theorem wd_170 : Cond.methodLink RL 23 yX5_strokeCount ∈ wU := wU_of (i := 242) (by decide +kernel) (by decide +kernel)
theorem wd_171 : Cond.instanceMethod yX5_strokeCount ∈ wU := wU_of (i := 243) (by decide +kernel) (by decide +kernel)
theorem wd_172 : Cond.selects RX5 yX5_strokeCount yX5_strokeCount ∈ wU := wU_of (i := 244) (by decide +kernel) (by decide +kernel)
set_option maxRecDepth 20000 in
theorem wd_173 : Cond.code yX5_strokeCount cX5_strokeCount 1 (some .int) ∈ wU := wU_of (i := 245) rfl rfl
theorem wd_174 : Cond.methodLink RL 27 yX6_strokeCount ∈ wU := wU_of (i := 659) (by decide +kernel) (by decide +kernel)
theorem wd_175 : Cond.instanceMethod yX6_strokeCount ∈ wU := wU_of (i := 660) (by decide +kernel) (by decide +kernel)
theorem wd_176 : Cond.selects RX6 yX6_strokeCount yX6_strokeCount ∈ wU := wU_of (i := 661) (by decide +kernel) (by decide +kernel)
set_option maxRecDepth 20000 in
theorem wd_177 : Cond.code yX6_strokeCount cX6_strokeCount 1 (some .int) ∈ wU := wU_of (i := 662) rfl rfl
theorem wd_178 : Cond.methodLink RL 28 yX5_penOf ∈ wU := wU_of (i := 246) (by decide +kernel) (by decide +kernel)
theorem wd_179 : Cond.instanceMethod yX5_penOf ∈ wU := wU_of (i := 247) (by decide +kernel) (by decide +kernel)
theorem wd_180 : Cond.selects RX5 yX5_penOf yX5_penOf ∈ wU := wU_of (i := 248) (by decide +kernel) (by decide +kernel)
set_option maxRecDepth 20000 in
theorem wd_181 : Cond.code yX5_penOf cX5_penOf 2 (some .int) ∈ wU := wU_of (i := 249) rfl rfl
theorem wd_182 : Cond.methodLink RX5 80 yX1_penOfStroke ∈ wU := wU_of (i := 250) (by decide +kernel) (by decide +kernel)
theorem wd_183 : Cond.instanceMethod yX1_penOfStroke ∈ wU := wU_of (i := 251) (by decide +kernel) (by decide +kernel)
theorem wd_184 : Cond.selects RX1 yX1_penOfStroke yX1_penOfStroke ∈ wU := wU_of (i := 252) (by decide +kernel) (by decide +kernel)
set_option maxRecDepth 20000 in
theorem wd_185 : Cond.code yX1_penOfStroke cX1_penOfStroke 2 (some .int) ∈ wU := wU_of (i := 253) rfl rfl
theorem wd_186 : Cond.methodLink RL 31 yX6_penOf ∈ wU := wU_of (i := 663) (by decide +kernel) (by decide +kernel)
theorem wd_187 : Cond.instanceMethod yX6_penOf ∈ wU := wU_of (i := 664) (by decide +kernel) (by decide +kernel)
theorem wd_188 : Cond.selects RX6 yX6_penOf yX6_penOf ∈ wU := wU_of (i := 665) (by decide +kernel) (by decide +kernel)
set_option maxRecDepth 20000 in
theorem wd_189 : Cond.code yX6_penOf cX6_penOf 2 (some .int) ∈ wU := wU_of (i := 666) rfl rfl
theorem wd_190 : Cond.methodLink RX6 56 yX6_penAt ∈ wU := wU_of (i := 667) (by decide +kernel) (by decide +kernel)
theorem wd_191 : Cond.instanceMethod yX6_penAt ∈ wU := wU_of (i := 669) (by decide +kernel) (by decide +kernel)
theorem wd_192 : Cond.selects RX6 yX6_penAt yX6_penAt ∈ wU := wU_of (i := 29) (by decide +kernel) (by decide +kernel)
set_option maxRecDepth 20000 in
theorem wd_193 : Cond.code yX6_penAt cX6_penAt 2 (some .int) ∈ wU := wU_of (i := 670) rfl rfl
theorem wd_194 : Cond.methodLink RL 32 yX5_alikeTo ∈ wU := wU_of (i := 254) (by decide +kernel) (by decide +kernel)
theorem wd_195 : Cond.instanceMethod yX5_alikeTo ∈ wU := wU_of (i := 255) (by decide +kernel) (by decide +kernel)
theorem wd_196 : Cond.selects RX5 yX5_alikeTo yX5_alikeTo ∈ wU := wU_of (i := 256) (by decide +kernel) (by decide +kernel)
set_option maxRecDepth 20000 in
theorem wd_197 : Cond.code yX5_alikeTo cX5_alikeTo 2 (some .int) ∈ wU := wU_of (i := 257) rfl rfl
theorem wd_198 : Cond.methodLink RX5 84 yX1_lowestAlike ∈ wU := wU_of (i := 258) (by decide +kernel) (by decide +kernel)
theorem wd_199 : Cond.instanceMethod yX1_lowestAlike ∈ wU := wU_of (i := 259) (by decide +kernel) (by decide +kernel)
theorem wd_200 : Cond.selects RX1 yX1_lowestAlike yX1_lowestAlike ∈ wU := wU_of (i := 260) (by decide +kernel) (by decide +kernel)
set_option maxRecDepth 20000 in
theorem wd_201 : Cond.code yX1_lowestAlike cX1_lowestAlike 3 (some .int) ∈ wU := wU_of (i := 261) rfl rfl
theorem wd_202 : Cond.methodLink RX1 92 yX1_areAlike ∈ wU := wU_of (i := 262) (by decide +kernel) (by decide +kernel)
theorem wd_203 : Cond.instanceMethod yX1_areAlike ∈ wU := wU_of (i := 264) (by decide +kernel) (by decide +kernel)
theorem wd_204 : Cond.selects RX1 yX1_areAlike yX1_areAlike ∈ wU := wU_of (i := 3) (by decide +kernel) (by decide +kernel)
set_option maxRecDepth 20000 in
theorem wd_205 : Cond.code yX1_areAlike cX1_areAlike 5 (some .boolean) ∈ wU := wU_of (i := 265) rfl rfl
theorem wd_206 : Cond.methodLink RX1 98 yX1_penOfStroke ∈ wU := wU_of (i := 266) (by decide +kernel) (by decide +kernel)
theorem wd_207 : Cond.methodLink RX1 101 yX1_samePoint ∈ wU := wU_of (i := 267) (by decide +kernel) (by decide +kernel)
theorem wd_208 : Cond.instanceMethod yX1_samePoint ∈ wU := wU_of (i := 268) (by decide +kernel) (by decide +kernel)
theorem wd_209 : Cond.selects RX1 yX1_samePoint yX1_samePoint ∈ wU := wU_of (i := 269) (by decide +kernel) (by decide +kernel)
set_option maxRecDepth 20000 in
theorem wd_210 : Cond.code yX1_samePoint cX1_samePoint 3 (some .boolean) ∈ wU := wU_of (i := 270) rfl rfl
theorem wd_211 : Cond.methodLink RX1 72 yX1_beginXOf ∈ wU := wU_of (i := 271) (by decide +kernel) (by decide +kernel)
theorem wd_212 : Cond.instanceMethod yX1_beginXOf ∈ wU := wU_of (i := 273) (by decide +kernel) (by decide +kernel)
theorem wd_213 : Cond.selects RX1 yX1_beginXOf yX1_beginXOf ∈ wU := wU_of (i := 4) (by decide +kernel) (by decide +kernel)
set_option maxRecDepth 20000 in
theorem wd_214 : Cond.code yX1_beginXOf cX1_beginXOf 2 (some .int) ∈ wU := wU_of (i := 274) rfl rfl
theorem wd_215 : Cond.methodLink RX1 35 yX1_hasCode ∈ wU := wU_of (i := 275) (by decide +kernel) (by decide +kernel)
theorem wd_216 : Cond.instanceMethod yX1_hasCode ∈ wU := wU_of (i := 277) (by decide +kernel) (by decide +kernel)
theorem wd_217 : Cond.selects RX1 yX1_hasCode yX1_hasCode ∈ wU := wU_of (i := 5) (by decide +kernel) (by decide +kernel)
set_option maxRecDepth 20000 in
theorem wd_218 : Cond.code yX1_hasCode cX1_hasCode 2 (some .boolean) ∈ wU := wU_of (i := 278) rfl rfl
theorem wd_219 : Cond.methodLink RX1 75 yX1_beginYOf ∈ wU := wU_of (i := 279) (by decide +kernel) (by decide +kernel)
theorem wd_220 : Cond.instanceMethod yX1_beginYOf ∈ wU := wU_of (i := 281) (by decide +kernel) (by decide +kernel)
theorem wd_221 : Cond.selects RX1 yX1_beginYOf yX1_beginYOf ∈ wU := wU_of (i := 6) (by decide +kernel) (by decide +kernel)
set_option maxRecDepth 20000 in
theorem wd_222 : Cond.code yX1_beginYOf cX1_beginYOf 2 (some .int) ∈ wU := wU_of (i := 282) rfl rfl
theorem wd_223 : Cond.methodLink RL 35 yX6_alikeTo ∈ wU := wU_of (i := 671) (by decide +kernel) (by decide +kernel)
theorem wd_224 : Cond.instanceMethod yX6_alikeTo ∈ wU := wU_of (i := 672) (by decide +kernel) (by decide +kernel)
theorem wd_225 : Cond.selects RX6 yX6_alikeTo yX6_alikeTo ∈ wU := wU_of (i := 673) (by decide +kernel) (by decide +kernel)
set_option maxRecDepth 20000 in
theorem wd_226 : Cond.code yX6_alikeTo cX6_alikeTo 3 (some .int) ∈ wU := wU_of (i := 674) rfl rfl
theorem wd_227 : Cond.methodLink RX6 60 yX6_areAlike ∈ wU := wU_of (i := 675) (by decide +kernel) (by decide +kernel)
theorem wd_228 : Cond.instanceMethod yX6_areAlike ∈ wU := wU_of (i := 677) (by decide +kernel) (by decide +kernel)
theorem wd_229 : Cond.selects RX6 yX6_areAlike yX6_areAlike ∈ wU := wU_of (i := 30) (by decide +kernel) (by decide +kernel)
set_option maxRecDepth 20000 in
theorem wd_230 : Cond.code yX6_areAlike cX6_areAlike 5 (some .boolean) ∈ wU := wU_of (i := 678) rfl rfl
theorem wd_231 : Cond.methodLink RL 36 yX5_coveredBy ∈ wU := wU_of (i := 283) (by decide +kernel) (by decide +kernel)
theorem wd_232 : Cond.instanceMethod yX5_coveredBy ∈ wU := wU_of (i := 284) (by decide +kernel) (by decide +kernel)
theorem wd_233 : Cond.selects RX5 yX5_coveredBy yX5_coveredBy ∈ wU := wU_of (i := 285) (by decide +kernel) (by decide +kernel)
set_option maxRecDepth 20000 in
theorem wd_234 : Cond.code yX5_coveredBy cX5_coveredBy 2 (some .int) ∈ wU := wU_of (i := 286) rfl rfl
theorem wd_235 : Cond.methodLink RX5 87 yX1_lowestCover ∈ wU := wU_of (i := 287) (by decide +kernel) (by decide +kernel)
theorem wd_236 : Cond.instanceMethod yX1_lowestCover ∈ wU := wU_of (i := 288) (by decide +kernel) (by decide +kernel)
theorem wd_237 : Cond.selects RX1 yX1_lowestCover yX1_lowestCover ∈ wU := wU_of (i := 289) (by decide +kernel) (by decide +kernel)
set_option maxRecDepth 20000 in
theorem wd_238 : Cond.code yX1_lowestCover cX1_lowestCover 3 (some .int) ∈ wU := wU_of (i := 290) rfl rfl
theorem wd_239 : Cond.methodLink RX1 95 yX1_covers ∈ wU := wU_of (i := 291) (by decide +kernel) (by decide +kernel)
theorem wd_240 : Cond.instanceMethod yX1_covers ∈ wU := wU_of (i := 293) (by decide +kernel) (by decide +kernel)
theorem wd_241 : Cond.selects RX1 yX1_covers yX1_covers ∈ wU := wU_of (i := 7) (by decide +kernel) (by decide +kernel)
set_option maxRecDepth 20000 in
theorem wd_242 : Cond.code yX1_covers cX1_covers 3 (some .boolean) ∈ wU := wU_of (i := 294) rfl rfl
theorem wd_243 : Cond.methodLink RX1 104 yX1_liesOn ∈ wU := wU_of (i := 295) (by decide +kernel) (by decide +kernel)
theorem wd_244 : Cond.instanceMethod yX1_liesOn ∈ wU := wU_of (i := 297) (by decide +kernel) (by decide +kernel)
theorem wd_245 : Cond.selects RX1 yX1_liesOn yX1_liesOn ∈ wU := wU_of (i := 8) (by decide +kernel) (by decide +kernel)
set_option maxRecDepth 20000 in
theorem wd_246 : Cond.code yX1_liesOn cX1_liesOn 9 (some .boolean) ∈ wU := wU_of (i := 298) rfl rfl
theorem wd_247 : Cond.methodLink RX1 107 Lib.Math.min.name ∈ wU := wU_of (i := 307) (by decide +kernel) (by decide +kernel)
theorem wd_248 : Cond.methodLink RX1 113 Lib.Math.max.name ∈ wU := wU_of (i := 308) (by decide +kernel) (by decide +kernel)
theorem wd_249 : Cond.static Lib.Math.max.name ∈ wU := wU_of (i := 309) (by decide +kernel) (by decide +kernel)
set_option maxRecDepth 20000 in
theorem wd_250 : Cond.code Lib.Math.max.name Lib.Math.max.code 2 (some .int) ∈ wU := wU_of (i := 310) rfl rfl
theorem wd_251 : Cond.methodLink RX1 66 yX1_endXOf ∈ wU := wU_of (i := 299) (by decide +kernel) (by decide +kernel)
theorem wd_252 : Cond.instanceMethod yX1_endXOf ∈ wU := wU_of (i := 301) (by decide +kernel) (by decide +kernel)
theorem wd_253 : Cond.selects RX1 yX1_endXOf yX1_endXOf ∈ wU := wU_of (i := 9) (by decide +kernel) (by decide +kernel)
set_option maxRecDepth 20000 in
theorem wd_254 : Cond.code yX1_endXOf cX1_endXOf 2 (some .int) ∈ wU := wU_of (i := 302) rfl rfl
theorem wd_255 : Cond.methodLink RX1 69 yX1_endYOf ∈ wU := wU_of (i := 303) (by decide +kernel) (by decide +kernel)
theorem wd_256 : Cond.instanceMethod yX1_endYOf ∈ wU := wU_of (i := 305) (by decide +kernel) (by decide +kernel)
theorem wd_257 : Cond.selects RX1 yX1_endYOf yX1_endYOf ∈ wU := wU_of (i := 10) (by decide +kernel) (by decide +kernel)
set_option maxRecDepth 20000 in
theorem wd_258 : Cond.code yX1_endYOf cX1_endYOf 2 (some .int) ∈ wU := wU_of (i := 306) rfl rfl
theorem wd_259 : Cond.methodLink RL 39 yX6_coveredBy ∈ wU := wU_of (i := 679) (by decide +kernel) (by decide +kernel)
theorem wd_260 : Cond.instanceMethod yX6_coveredBy ∈ wU := wU_of (i := 680) (by decide +kernel) (by decide +kernel)
theorem wd_261 : Cond.selects RX6 yX6_coveredBy yX6_coveredBy ∈ wU := wU_of (i := 681) (by decide +kernel) (by decide +kernel)
set_option maxRecDepth 20000 in
theorem wd_262 : Cond.code yX6_coveredBy cX6_coveredBy 4 (some .int) ∈ wU := wU_of (i := 682) rfl rfl
theorem wd_263 : Cond.methodLink RX6 67 yX6_lies ∈ wU := wU_of (i := 683) (by decide +kernel) (by decide +kernel)
theorem wd_264 : Cond.instanceMethod yX6_lies ∈ wU := wU_of (i := 685) (by decide +kernel) (by decide +kernel)
theorem wd_265 : Cond.selects RX6 yX6_lies yX6_lies ∈ wU := wU_of (i := 31) (by decide +kernel) (by decide +kernel)
set_option maxRecDepth 20000 in
theorem wd_266 : Cond.code yX6_lies cX6_lies 8 (some .boolean) ∈ wU := wU_of (i := 686) rfl rfl
theorem wd_267 : Cond.methodLink RX6 64 yX6_isBetween ∈ wU := wU_of (i := 687) (by decide +kernel) (by decide +kernel)
theorem wd_268 : Cond.static yX6_isBetween ∈ wU := wU_of (i := 688) (by decide +kernel) (by decide +kernel)
set_option maxRecDepth 20000 in
theorem wd_269 : Cond.code yX6_isBetween cX6_isBetween 3 (some .boolean) ∈ wU := wU_of (i := 689) rfl rfl
theorem wd_270 : Cond.methodLink RL 40 yX5_removeDuplicates ∈ wU := wU_of (i := 312) (by decide +kernel) (by decide +kernel)
theorem wd_271 : Cond.instanceMethod yX5_removeDuplicates ∈ wU := wU_of (i := 313) (by decide +kernel) (by decide +kernel)
theorem wd_272 : Cond.selects RX5 yX5_removeDuplicates yX5_removeDuplicates ∈ wU := wU_of (i := 314) (by decide +kernel) (by decide +kernel)
set_option maxRecDepth 20000 in
theorem wd_273 : Cond.code yX5_removeDuplicates cX5_removeDuplicates 1 (some .int) ∈ wU := wU_of (i := 315) rfl rfl
theorem wd_274 : Cond.methodLink RX5 90 yX1_dropDuplicates ∈ wU := wU_of (i := 316) (by decide +kernel) (by decide +kernel)
theorem wd_275 : Cond.instanceMethod yX1_dropDuplicates ∈ wU := wU_of (i := 317) (by decide +kernel) (by decide +kernel)
theorem wd_276 : Cond.selects RX1 yX1_dropDuplicates yX1_dropDuplicates ∈ wU := wU_of (i := 318) (by decide +kernel) (by decide +kernel)
set_option maxRecDepth 20000 in
theorem wd_277 : Cond.code yX1_dropDuplicates cX1_dropDuplicates 4 (some .int) ∈ wU := wU_of (i := 319) rfl rfl
theorem wd_278 : Cond.methodLink RX1 48 yX1_lowestAlike ∈ wU := wU_of (i := 320) (by decide +kernel) (by decide +kernel)
theorem wd_279 : Cond.methodLink RX1 52 yX1_drop ∈ wU := wU_of (i := 321) (by decide +kernel) (by decide +kernel)
theorem wd_280 : Cond.methodLink RL 43 yX6_removeDuplicates ∈ wU := wU_of (i := 690) (by decide +kernel) (by decide +kernel)
theorem wd_281 : Cond.instanceMethod yX6_removeDuplicates ∈ wU := wU_of (i := 691) (by decide +kernel) (by decide +kernel)
theorem wd_282 : Cond.selects RX6 yX6_removeDuplicates yX6_removeDuplicates ∈ wU := wU_of (i := 692) (by decide +kernel) (by decide +kernel)
set_option maxRecDepth 20000 in
theorem wd_283 : Cond.code yX6_removeDuplicates cX6_removeDuplicates 5 (some .int) ∈ wU := wU_of (i := 693) rfl rfl
theorem wd_284 : Cond.methodLink RL 44 yX5_leastRuns ∈ wU := wU_of (i := 322) (by decide +kernel) (by decide +kernel)
theorem wd_285 : Cond.instanceMethod yX5_leastRuns ∈ wU := wU_of (i := 323) (by decide +kernel) (by decide +kernel)
theorem wd_286 : Cond.selects RX5 yX5_leastRuns yX5_leastRuns ∈ wU := wU_of (i := 324) (by decide +kernel) (by decide +kernel)
set_option maxRecDepth 20000 in
theorem wd_287 : Cond.code yX5_leastRuns cX5_leastRuns 2 (some .int) ∈ wU := wU_of (i := 325) rfl rfl
theorem wd_288 : Cond.methodLink RX5 93 yX3_fewestRuns ∈ wU := wU_of (i := 326) (by decide +kernel) (by decide +kernel)
theorem wd_289 : Cond.instanceMethod yX3_fewestRuns ∈ wU := wU_of (i := 327) (by decide +kernel) (by decide +kernel)
theorem wd_290 : Cond.selects RX3 yX3_fewestRuns yX3_fewestRuns ∈ wU := wU_of (i := 328) (by decide +kernel) (by decide +kernel)
set_option maxRecDepth 20000 in
theorem wd_291 : Cond.code yX3_fewestRuns cX3_fewestRuns 6 (some .int) ∈ wU := wU_of (i := 329) rfl rfl
theorem wd_292 : Cond.methodLink RX3 21 Lib.Math.min.name ∈ wU := wU_of (i := 331) (by decide +kernel) (by decide +kernel)
theorem wd_293 : Cond.methodLink RX3 39 Lib.Math.max.name ∈ wU := wU_of (i := 353) (by decide +kernel) (by decide +kernel)
theorem wd_294 : Cond.methodLink RX3 15 yX1_size ∈ wU := wU_of (i := 330) (by decide +kernel) (by decide +kernel)
theorem wd_295 : Cond.methodLink RX3 27 yX3_joinComponents ∈ wU := wU_of (i := 332) (by decide +kernel) (by decide +kernel)
theorem wd_296 : Cond.instanceMethod yX3_joinComponents ∈ wU := wU_of (i := 334) (by decide +kernel) (by decide +kernel)
theorem wd_297 : Cond.selects RX3 yX3_joinComponents yX3_joinComponents ∈ wU := wU_of (i := 11) (by decide +kernel) (by decide +kernel)
set_option maxRecDepth 20000 in
theorem wd_298 : Cond.code yX3_joinComponents cX3_joinComponents 6 none ∈ wU := wU_of (i := 335) rfl rfl
theorem wd_299 : Cond.methodLink RX3 31 yX1_penOfStroke ∈ wU := wU_of (i := 336) (by decide +kernel) (by decide +kernel)
theorem wd_300 : Cond.methodLink RX3 42 yX3_touch ∈ wU := wU_of (i := 337) (by decide +kernel) (by decide +kernel)
theorem wd_301 : Cond.static yX3_touch ∈ wU := wU_of (i := 338) (by decide +kernel) (by decide +kernel)
set_option maxRecDepth 20000 in
theorem wd_302 : Cond.code yX3_touch cX3_touch 5 (some .boolean) ∈ wU := wU_of (i := 339) rfl rfl
theorem wd_303 : Cond.methodLink RX3 50 yX1_samePoint ∈ wU := wU_of (i := 340) (by decide +kernel) (by decide +kernel)
theorem wd_304 : Cond.methodLink RX3 46 yX3_rename ∈ wU := wU_of (i := 341) (by decide +kernel) (by decide +kernel)
theorem wd_305 : Cond.instanceMethod yX3_rename ∈ wU := wU_of (i := 343) (by decide +kernel) (by decide +kernel)
theorem wd_306 : Cond.selects RX3 yX3_rename yX3_rename ∈ wU := wU_of (i := 12) (by decide +kernel) (by decide +kernel)
set_option maxRecDepth 20000 in
theorem wd_307 : Cond.code yX3_rename cX3_rename 5 none ∈ wU := wU_of (i := 344) rfl rfl
theorem wd_308 : Cond.methodLink RX3 35 yX3_countOddVertices ∈ wU := wU_of (i := 345) (by decide +kernel) (by decide +kernel)
theorem wd_309 : Cond.instanceMethod yX3_countOddVertices ∈ wU := wU_of (i := 347) (by decide +kernel) (by decide +kernel)
theorem wd_310 : Cond.selects RX3 yX3_countOddVertices yX3_countOddVertices ∈ wU := wU_of (i := 13) (by decide +kernel) (by decide +kernel)
set_option maxRecDepth 20000 in
theorem wd_311 : Cond.code yX3_countOddVertices cX3_countOddVertices 6 (some .int) ∈ wU := wU_of (i := 348) rfl rfl
theorem wd_312 : Cond.methodLink RX3 54 yX3_isOddVertex ∈ wU := wU_of (i := 349) (by decide +kernel) (by decide +kernel)
theorem wd_313 : Cond.instanceMethod yX3_isOddVertex ∈ wU := wU_of (i := 351) (by decide +kernel) (by decide +kernel)
theorem wd_314 : Cond.selects RX3 yX3_isOddVertex yX3_isOddVertex ∈ wU := wU_of (i := 14) (by decide +kernel) (by decide +kernel)
set_option maxRecDepth 20000 in
theorem wd_315 : Cond.code yX3_isOddVertex cX3_isOddVertex 6 (some .boolean) ∈ wU := wU_of (i := 352) rfl rfl
theorem wd_316 : Cond.methodLink RL 47 yX6_leastRuns ∈ wU := wU_of (i := 694) (by decide +kernel) (by decide +kernel)
theorem wd_317 : Cond.instanceMethod yX6_leastRuns ∈ wU := wU_of (i := 695) (by decide +kernel) (by decide +kernel)
theorem wd_318 : Cond.selects RX6 yX6_leastRuns yX6_leastRuns ∈ wU := wU_of (i := 696) (by decide +kernel) (by decide +kernel)
set_option maxRecDepth 20000 in
theorem wd_319 : Cond.code yX6_leastRuns cX6_leastRuns 6 (some .int) ∈ wU := wU_of (i := 697) rfl rfl
theorem wd_320 : Cond.methodLink RX6 76 yX6_joins ∈ wU := wU_of (i := 698) (by decide +kernel) (by decide +kernel)
theorem wd_321 : Cond.instanceMethod yX6_joins ∈ wU := wU_of (i := 700) (by decide +kernel) (by decide +kernel)
theorem wd_322 : Cond.selects RX6 yX6_joins yX6_joins ∈ wU := wU_of (i := 32) (by decide +kernel) (by decide +kernel)
set_option maxRecDepth 20000 in
theorem wd_323 : Cond.code yX6_joins cX6_joins 7 none ∈ wU := wU_of (i := 701) rfl rfl
theorem wd_324 : Cond.methodLink RX6 70 yX6_isOfPen ∈ wU := wU_of (i := 702) (by decide +kernel) (by decide +kernel)
theorem wd_325 : Cond.instanceMethod yX6_isOfPen ∈ wU := wU_of (i := 704) (by decide +kernel) (by decide +kernel)
theorem wd_326 : Cond.selects RX6 yX6_isOfPen yX6_isOfPen ∈ wU := wU_of (i := 33) (by decide +kernel) (by decide +kernel)
set_option maxRecDepth 20000 in
theorem wd_327 : Cond.code yX6_isOfPen cX6_isOfPen 3 (some .boolean) ∈ wU := wU_of (i := 705) rfl rfl
theorem wd_328 : Cond.methodLink RX6 73 yX6_isSamePoint ∈ wU := wU_of (i := 706) (by decide +kernel) (by decide +kernel)
theorem wd_329 : Cond.instanceMethod yX6_isSamePoint ∈ wU := wU_of (i := 708) (by decide +kernel) (by decide +kernel)
theorem wd_330 : Cond.selects RX6 yX6_isSamePoint yX6_isSamePoint ∈ wU := wU_of (i := 34) (by decide +kernel) (by decide +kernel)
set_option maxRecDepth 20000 in
theorem wd_331 : Cond.code yX6_isSamePoint cX6_isSamePoint 5 (some .boolean) ∈ wU := wU_of (i := 709) rfl rfl
theorem wd_332 : Cond.methodLink RX6 79 yX6_degree ∈ wU := wU_of (i := 710) (by decide +kernel) (by decide +kernel)
theorem wd_333 : Cond.instanceMethod yX6_degree ∈ wU := wU_of (i := 712) (by decide +kernel) (by decide +kernel)
theorem wd_334 : Cond.selects RX6 yX6_degree yX6_degree ∈ wU := wU_of (i := 35) (by decide +kernel) (by decide +kernel)
set_option maxRecDepth 20000 in
theorem wd_335 : Cond.code yX6_degree cX6_degree 6 (some .int) ∈ wU := wU_of (i := 713) rfl rfl
theorem wd_336 : Cond.methodLink RL 48 yX5_strokeAt ∈ wU := wU_of (i := 354) (by decide +kernel) (by decide +kernel)
theorem wd_337 : Cond.instanceMethod yX5_strokeAt ∈ wU := wU_of (i := 355) (by decide +kernel) (by decide +kernel)
theorem wd_338 : Cond.selects RX5 yX5_strokeAt yX5_strokeAt ∈ wU := wU_of (i := 356) (by decide +kernel) (by decide +kernel)
set_option maxRecDepth 20000 in
theorem wd_339 : Cond.code yX5_strokeAt cX5_strokeAt 3 (some .int) ∈ wU := wU_of (i := 357) rfl rfl
theorem wd_340 : Cond.methodLink RX5 97 yX5_codeOrError ∈ wU := wU_of (i := 358) (by decide +kernel) (by decide +kernel)
theorem wd_341 : Cond.instanceMethod yX5_codeOrError ∈ wU := wU_of (i := 360) (by decide +kernel) (by decide +kernel)
theorem wd_342 : Cond.selects RX5 yX5_codeOrError yX5_codeOrError ∈ wU := wU_of (i := 15) (by decide +kernel) (by decide +kernel)
set_option maxRecDepth 20000 in
theorem wd_343 : Cond.code yX5_codeOrError cX5_codeOrError 2 (some .int) ∈ wU := wU_of (i := 361) rfl rfl
theorem wd_344 : Cond.methodLink RX5 100 yX1_hasPosition ∈ wU := wU_of (i := 362) (by decide +kernel) (by decide +kernel)
theorem wd_345 : Cond.instanceMethod yX1_hasPosition ∈ wU := wU_of (i := 363) (by decide +kernel) (by decide +kernel)
theorem wd_346 : Cond.selects RX1 yX1_hasPosition yX1_hasPosition ∈ wU := wU_of (i := 364) (by decide +kernel) (by decide +kernel)
set_option maxRecDepth 20000 in
theorem wd_347 : Cond.code yX1_hasPosition cX1_hasPosition 2 (some .boolean) ∈ wU := wU_of (i := 365) rfl rfl
theorem wd_348 : Cond.methodLink RX5 107 yX1_codeAt ∈ wU := wU_of (i := 366) (by decide +kernel) (by decide +kernel)
theorem wd_349 : Cond.instanceMethod yX1_codeAt ∈ wU := wU_of (i := 367) (by decide +kernel) (by decide +kernel)
theorem wd_350 : Cond.selects RX1 yX1_codeAt yX1_codeAt ∈ wU := wU_of (i := 368) (by decide +kernel) (by decide +kernel)
set_option maxRecDepth 20000 in
theorem wd_351 : Cond.code yX1_codeAt cX1_codeAt 2 (some .int) ∈ wU := wU_of (i := 369) rfl rfl
theorem wd_352 : Cond.methodLink RX1 32 yX1_hasPosition ∈ wU := wU_of (i := 370) (by decide +kernel) (by decide +kernel)
theorem wd_353 : Cond.methodLink RL 51 yX6_strokeAt ∈ wU := wU_of (i := 714) (by decide +kernel) (by decide +kernel)
theorem wd_354 : Cond.instanceMethod yX6_strokeAt ∈ wU := wU_of (i := 715) (by decide +kernel) (by decide +kernel)
theorem wd_355 : Cond.selects RX6 yX6_strokeAt yX6_strokeAt ∈ wU := wU_of (i := 716) (by decide +kernel) (by decide +kernel)
set_option maxRecDepth 20000 in
theorem wd_356 : Cond.code yX6_strokeAt cX6_strokeAt 2 (some .int) ∈ wU := wU_of (i := 717) rfl rfl
theorem wd_357 : Cond.methodLink RX6 83 yX6_isPosition ∈ wU := wU_of (i := 718) (by decide +kernel) (by decide +kernel)
theorem wd_358 : Cond.instanceMethod yX6_isPosition ∈ wU := wU_of (i := 720) (by decide +kernel) (by decide +kernel)
theorem wd_359 : Cond.selects RX6 yX6_isPosition yX6_isPosition ∈ wU := wU_of (i := 36) (by decide +kernel) (by decide +kernel)
set_option maxRecDepth 20000 in
theorem wd_360 : Cond.code yX6_isPosition cX6_isPosition 2 (some .boolean) ∈ wU := wU_of (i := 721) rfl rfl
theorem wd_361 : Cond.methodLink RX6 86 yX6_at ∈ wU := wU_of (i := 722) (by decide +kernel) (by decide +kernel)
theorem wd_362 : Cond.instanceMethod yX6_at ∈ wU := wU_of (i := 724) (by decide +kernel) (by decide +kernel)
theorem wd_363 : Cond.selects RX6 yX6_at yX6_at ∈ wU := wU_of (i := 37) (by decide +kernel) (by decide +kernel)
set_option maxRecDepth 20000 in
theorem wd_364 : Cond.code yX6_at cX6_at 2 (some .int) ∈ wU := wU_of (i := 725) rfl rfl
theorem wd_365 : Cond.methodLink RL 52 yX5_directionAt ∈ wU := wU_of (i := 371) (by decide +kernel) (by decide +kernel)
theorem wd_366 : Cond.instanceMethod yX5_directionAt ∈ wU := wU_of (i := 372) (by decide +kernel) (by decide +kernel)
theorem wd_367 : Cond.selects RX5 yX5_directionAt yX5_directionAt ∈ wU := wU_of (i := 373) (by decide +kernel) (by decide +kernel)
set_option maxRecDepth 20000 in
theorem wd_368 : Cond.code yX5_directionAt cX5_directionAt 3 (some .int) ∈ wU := wU_of (i := 374) rfl rfl
theorem wd_369 : Cond.methodLink RL 55 yX6_directionAt ∈ wU := wU_of (i := 726) (by decide +kernel) (by decide +kernel)
theorem wd_370 : Cond.instanceMethod yX6_directionAt ∈ wU := wU_of (i := 727) (by decide +kernel) (by decide +kernel)
theorem wd_371 : Cond.selects RX6 yX6_directionAt yX6_directionAt ∈ wU := wU_of (i := 728) (by decide +kernel) (by decide +kernel)
set_option maxRecDepth 20000 in
theorem wd_372 : Cond.code yX6_directionAt cX6_directionAt 2 (some .int) ∈ wU := wU_of (i := 729) rfl rfl
theorem wd_373 : Cond.methodLink RL 56 yX5_movePosition ∈ wU := wU_of (i := 375) (by decide +kernel) (by decide +kernel)
theorem wd_374 : Cond.instanceMethod yX5_movePosition ∈ wU := wU_of (i := 376) (by decide +kernel) (by decide +kernel)
theorem wd_375 : Cond.selects RX5 yX5_movePosition yX5_movePosition ∈ wU := wU_of (i := 377) (by decide +kernel) (by decide +kernel)
set_option maxRecDepth 20000 in
theorem wd_376 : Cond.code yX5_movePosition cX5_movePosition 3 (some .int) ∈ wU := wU_of (i := 378) rfl rfl
theorem wd_377 : Cond.methodLink RX5 103 yX1_move ∈ wU := wU_of (i := 379) (by decide +kernel) (by decide +kernel)
theorem wd_378 : Cond.instanceMethod yX1_move ∈ wU := wU_of (i := 380) (by decide +kernel) (by decide +kernel)
theorem wd_379 : Cond.selects RX1 yX1_move yX1_move ∈ wU := wU_of (i := 381) (by decide +kernel) (by decide +kernel)
set_option maxRecDepth 20000 in
theorem wd_380 : Cond.code yX1_move cX1_move 5 none ∈ wU := wU_of (i := 382) rfl rfl
theorem wd_381 : Cond.methodLink RL 60 yX6_movePosition ∈ wU := wU_of (i := 730) (by decide +kernel) (by decide +kernel)
theorem wd_382 : Cond.instanceMethod yX6_movePosition ∈ wU := wU_of (i := 731) (by decide +kernel) (by decide +kernel)
theorem wd_383 : Cond.selects RX6 yX6_movePosition yX6_movePosition ∈ wU := wU_of (i := 732) (by decide +kernel) (by decide +kernel)
set_option maxRecDepth 20000 in
theorem wd_384 : Cond.code yX6_movePosition cX6_movePosition 6 (some .int) ∈ wU := wU_of (i := 733) rfl rfl
theorem wd_385 : Cond.methodLink RL 61 yX5_turnPosition ∈ wU := wU_of (i := 383) (by decide +kernel) (by decide +kernel)
theorem wd_386 : Cond.instanceMethod yX5_turnPosition ∈ wU := wU_of (i := 384) (by decide +kernel) (by decide +kernel)
theorem wd_387 : Cond.selects RX5 yX5_turnPosition yX5_turnPosition ∈ wU := wU_of (i := 385) (by decide +kernel) (by decide +kernel)
set_option maxRecDepth 20000 in
theorem wd_388 : Cond.code yX5_turnPosition cX5_turnPosition 2 (some .int) ∈ wU := wU_of (i := 386) rfl rfl
theorem wd_389 : Cond.methodLink RX5 110 yX1_turn ∈ wU := wU_of (i := 387) (by decide +kernel) (by decide +kernel)
theorem wd_390 : Cond.instanceMethod yX1_turn ∈ wU := wU_of (i := 388) (by decide +kernel) (by decide +kernel)
theorem wd_391 : Cond.selects RX1 yX1_turn yX1_turn ∈ wU := wU_of (i := 389) (by decide +kernel) (by decide +kernel)
set_option maxRecDepth 20000 in
theorem wd_392 : Cond.code yX1_turn cX1_turn 2 none ∈ wU := wU_of (i := 390) rfl rfl
theorem wd_393 : Cond.methodLink RL 64 yX6_turnPosition ∈ wU := wU_of (i := 734) (by decide +kernel) (by decide +kernel)
theorem wd_394 : Cond.instanceMethod yX6_turnPosition ∈ wU := wU_of (i := 735) (by decide +kernel) (by decide +kernel)
theorem wd_395 : Cond.selects RX6 yX6_turnPosition yX6_turnPosition ∈ wU := wU_of (i := 736) (by decide +kernel) (by decide +kernel)
set_option maxRecDepth 20000 in
theorem wd_396 : Cond.code yX6_turnPosition cX6_turnPosition 2 (some .int) ∈ wU := wU_of (i := 737) rfl rfl
theorem wd_397 : Cond.methodLink RL 65 yX5_cost ∈ wU := wU_of (i := 391) (by decide +kernel) (by decide +kernel)
theorem wd_398 : Cond.instanceMethod yX5_cost ∈ wU := wU_of (i := 392) (by decide +kernel) (by decide +kernel)
theorem wd_399 : Cond.selects RX5 yX5_cost yX5_cost ∈ wU := wU_of (i := 393) (by decide +kernel) (by decide +kernel)
set_option maxRecDepth 20000 in
theorem wd_400 : Cond.code yX5_cost cX5_cost 1 (some .int) ∈ wU := wU_of (i := 394) rfl rfl
theorem wd_401 : Cond.methodLink RX5 113 yX1_planCost ∈ wU := wU_of (i := 395) (by decide +kernel) (by decide +kernel)
theorem wd_402 : Cond.instanceMethod yX1_planCost ∈ wU := wU_of (i := 396) (by decide +kernel) (by decide +kernel)
theorem wd_403 : Cond.selects RX1 yX1_planCost yX1_planCost ∈ wU := wU_of (i := 397) (by decide +kernel) (by decide +kernel)
set_option maxRecDepth 20000 in
theorem wd_404 : Cond.code yX1_planCost cX1_planCost 5 (some .int) ∈ wU := wU_of (i := 398) rfl rfl
theorem wd_405 : Cond.methodLink RX1 63 yX1_stepCost ∈ wU := wU_of (i := 399) (by decide +kernel) (by decide +kernel)
theorem wd_406 : Cond.instanceMethod yX1_stepCost ∈ wU := wU_of (i := 400) (by decide +kernel) (by decide +kernel)
theorem wd_407 : Cond.selects RX1 yX1_stepCost yX1_stepCost ∈ wU := wU_of (i := 401) (by decide +kernel) (by decide +kernel)
set_option maxRecDepth 20000 in
theorem wd_408 : Cond.code yX1_stepCost cX1_stepCost 5 (some .int) ∈ wU := wU_of (i := 402) rfl rfl
theorem wd_409 : Cond.methodLink RX1 78 yX1_wayLength ∈ wU := wU_of (i := 403) (by decide +kernel) (by decide +kernel)
theorem wd_410 : Cond.static yX1_wayLength ∈ wU := wU_of (i := 404) (by decide +kernel) (by decide +kernel)
set_option maxRecDepth 20000 in
theorem wd_411 : Cond.code yX1_wayLength cX1_wayLength 4 (some .int) ∈ wU := wU_of (i := 405) rfl rfl
theorem wd_412 : Cond.methodLink RX1 123 Lib.Math.abs.name ∈ wU := wU_of (i := 406) (by decide +kernel) (by decide +kernel)
theorem wd_413 : Cond.static Lib.Math.abs.name ∈ wU := wU_of (i := 407) (by decide +kernel) (by decide +kernel)
set_option maxRecDepth 20000 in
theorem wd_414 : Cond.code Lib.Math.abs.name Lib.Math.abs.code 1 (some .int) ∈ wU := wU_of (i := 408) rfl rfl
theorem wd_415 : Cond.methodLink RX1 82 yX1_changesPen ∈ wU := wU_of (i := 409) (by decide +kernel) (by decide +kernel)
theorem wd_416 : Cond.instanceMethod yX1_changesPen ∈ wU := wU_of (i := 411) (by decide +kernel) (by decide +kernel)
theorem wd_417 : Cond.selects RX1 yX1_changesPen yX1_changesPen ∈ wU := wU_of (i := 16) (by decide +kernel) (by decide +kernel)
set_option maxRecDepth 20000 in
theorem wd_418 : Cond.code yX1_changesPen cX1_changesPen 3 (some .boolean) ∈ wU := wU_of (i := 412) rfl rfl
theorem wd_419 : Cond.methodLink RX1 86 yX1_penOfCode ∈ wU := wU_of (i := 413) (by decide +kernel) (by decide +kernel)
theorem wd_420 : Cond.instanceMethod yX1_penOfCode ∈ wU := wU_of (i := 415) (by decide +kernel) (by decide +kernel)
theorem wd_421 : Cond.selects RX1 yX1_penOfCode yX1_penOfCode ∈ wU := wU_of (i := 17) (by decide +kernel) (by decide +kernel)
set_option maxRecDepth 20000 in
theorem wd_422 : Cond.code yX1_penOfCode cX1_penOfCode 2 (some .int) ∈ wU := wU_of (i := 416) rfl rfl
theorem wd_423 : Cond.methodLink RL 68 yX6_cost ∈ wU := wU_of (i := 738) (by decide +kernel) (by decide +kernel)
theorem wd_424 : Cond.instanceMethod yX6_cost ∈ wU := wU_of (i := 739) (by decide +kernel) (by decide +kernel)
theorem wd_425 : Cond.selects RX6 yX6_cost yX6_cost ∈ wU := wU_of (i := 740) (by decide +kernel) (by decide +kernel)
set_option maxRecDepth 20000 in
theorem wd_426 : Cond.code yX6_cost cX6_cost 3 (some .int) ∈ wU := wU_of (i := 741) rfl rfl
theorem wd_427 : Cond.methodLink RX6 98 yX6_step ∈ wU := wU_of (i := 742) (by decide +kernel) (by decide +kernel)
theorem wd_428 : Cond.instanceMethod yX6_step ∈ wU := wU_of (i := 744) (by decide +kernel) (by decide +kernel)
theorem wd_429 : Cond.selects RX6 yX6_step yX6_step ∈ wU := wU_of (i := 38) (by decide +kernel) (by decide +kernel)
set_option maxRecDepth 20000 in
theorem wd_430 : Cond.code yX6_step cX6_step 5 (some .int) ∈ wU := wU_of (i := 745) rfl rfl
theorem wd_431 : Cond.methodLink RX6 89 yX6_begin ∈ wU := wU_of (i := 746) (by decide +kernel) (by decide +kernel)
theorem wd_432 : Cond.static yX6_begin ∈ wU := wU_of (i := 747) (by decide +kernel) (by decide +kernel)
set_option maxRecDepth 20000 in
theorem wd_433 : Cond.code yX6_begin cX6_begin 1 (some .int) ∈ wU := wU_of (i := 748) rfl rfl
theorem wd_434 : Cond.methodLink RX6 92 yX6_end ∈ wU := wU_of (i := 749) (by decide +kernel) (by decide +kernel)
theorem wd_435 : Cond.static yX6_end ∈ wU := wU_of (i := 750) (by decide +kernel) (by decide +kernel)
set_option maxRecDepth 20000 in
theorem wd_436 : Cond.code yX6_end cX6_end 1 (some .int) ∈ wU := wU_of (i := 751) rfl rfl
theorem wd_437 : Cond.methodLink RX6 95 yX6_far ∈ wU := wU_of (i := 752) (by decide +kernel) (by decide +kernel)
theorem wd_438 : Cond.static yX6_far ∈ wU := wU_of (i := 753) (by decide +kernel) (by decide +kernel)
set_option maxRecDepth 20000 in
theorem wd_439 : Cond.code yX6_far cX6_far 4 (some .int) ∈ wU := wU_of (i := 754) rfl rfl
theorem wd_440 : Cond.methodLink RL 69 yX5_penChanges ∈ wU := wU_of (i := 417) (by decide +kernel) (by decide +kernel)
theorem wd_441 : Cond.instanceMethod yX5_penChanges ∈ wU := wU_of (i := 418) (by decide +kernel) (by decide +kernel)
theorem wd_442 : Cond.selects RX5 yX5_penChanges yX5_penChanges ∈ wU := wU_of (i := 419) (by decide +kernel) (by decide +kernel)
set_option maxRecDepth 20000 in
theorem wd_443 : Cond.code yX5_penChanges cX5_penChanges 1 (some .int) ∈ wU := wU_of (i := 420) rfl rfl
theorem wd_444 : Cond.methodLink RX5 116 yX1_countPenChanges ∈ wU := wU_of (i := 421) (by decide +kernel) (by decide +kernel)
theorem wd_445 : Cond.instanceMethod yX1_countPenChanges ∈ wU := wU_of (i := 422) (by decide +kernel) (by decide +kernel)
theorem wd_446 : Cond.selects RX1 yX1_countPenChanges yX1_countPenChanges ∈ wU := wU_of (i := 423) (by decide +kernel) (by decide +kernel)
set_option maxRecDepth 20000 in
theorem wd_447 : Cond.code yX1_countPenChanges cX1_countPenChanges 4 (some .int) ∈ wU := wU_of (i := 424) rfl rfl
theorem wd_448 : Cond.methodLink RL 72 yX6_penChanges ∈ wU := wU_of (i := 755) (by decide +kernel) (by decide +kernel)
theorem wd_449 : Cond.instanceMethod yX6_penChanges ∈ wU := wU_of (i := 756) (by decide +kernel) (by decide +kernel)
theorem wd_450 : Cond.selects RX6 yX6_penChanges yX6_penChanges ∈ wU := wU_of (i := 757) (by decide +kernel) (by decide +kernel)
set_option maxRecDepth 20000 in
theorem wd_451 : Cond.code yX6_penChanges cX6_penChanges 3 (some .int) ∈ wU := wU_of (i := 758) rfl rfl
theorem wd_452 : Cond.methodLink RL 73 yX5_runCount ∈ wU := wU_of (i := 425) (by decide +kernel) (by decide +kernel)
theorem wd_453 : Cond.instanceMethod yX5_runCount ∈ wU := wU_of (i := 426) (by decide +kernel) (by decide +kernel)
theorem wd_454 : Cond.selects RX5 yX5_runCount yX5_runCount ∈ wU := wU_of (i := 427) (by decide +kernel) (by decide +kernel)
set_option maxRecDepth 20000 in
theorem wd_455 : Cond.code yX5_runCount cX5_runCount 1 (some .int) ∈ wU := wU_of (i := 428) rfl rfl
theorem wd_456 : Cond.methodLink RX5 119 yX1_countRuns ∈ wU := wU_of (i := 429) (by decide +kernel) (by decide +kernel)
theorem wd_457 : Cond.instanceMethod yX1_countRuns ∈ wU := wU_of (i := 430) (by decide +kernel) (by decide +kernel)
theorem wd_458 : Cond.selects RX1 yX1_countRuns yX1_countRuns ∈ wU := wU_of (i := 431) (by decide +kernel) (by decide +kernel)
set_option maxRecDepth 20000 in
theorem wd_459 : Cond.code yX1_countRuns cX1_countRuns 3 (some .int) ∈ wU := wU_of (i := 432) rfl rfl
theorem wd_460 : Cond.methodLink RX1 89 yX1_isLinkedToNext ∈ wU := wU_of (i := 433) (by decide +kernel) (by decide +kernel)
theorem wd_461 : Cond.instanceMethod yX1_isLinkedToNext ∈ wU := wU_of (i := 434) (by decide +kernel) (by decide +kernel)
theorem wd_462 : Cond.selects RX1 yX1_isLinkedToNext yX1_isLinkedToNext ∈ wU := wU_of (i := 435) (by decide +kernel) (by decide +kernel)
set_option maxRecDepth 20000 in
theorem wd_463 : Cond.code yX1_isLinkedToNext cX1_isLinkedToNext 4 (some .boolean) ∈ wU := wU_of (i := 436) rfl rfl
theorem wd_464 : Cond.methodLink RL 76 yX6_runCount ∈ wU := wU_of (i := 759) (by decide +kernel) (by decide +kernel)
theorem wd_465 : Cond.instanceMethod yX6_runCount ∈ wU := wU_of (i := 760) (by decide +kernel) (by decide +kernel)
theorem wd_466 : Cond.selects RX6 yX6_runCount yX6_runCount ∈ wU := wU_of (i := 761) (by decide +kernel) (by decide +kernel)
set_option maxRecDepth 20000 in
theorem wd_467 : Cond.code yX6_runCount cX6_runCount 3 (some .int) ∈ wU := wU_of (i := 762) rfl rfl
theorem wd_468 : Cond.methodLink RX6 101 yX6_isLinked ∈ wU := wU_of (i := 763) (by decide +kernel) (by decide +kernel)
theorem wd_469 : Cond.instanceMethod yX6_isLinked ∈ wU := wU_of (i := 765) (by decide +kernel) (by decide +kernel)
theorem wd_470 : Cond.selects RX6 yX6_isLinked yX6_isLinked ∈ wU := wU_of (i := 39) (by decide +kernel) (by decide +kernel)
set_option maxRecDepth 20000 in
theorem wd_471 : Cond.code yX6_isLinked cX6_isLinked 4 (some .boolean) ∈ wU := wU_of (i := 766) rfl rfl
theorem wd_472 : Cond.methodLink RL 77 yX5_runLength ∈ wU := wU_of (i := 437) (by decide +kernel) (by decide +kernel)
theorem wd_473 : Cond.instanceMethod yX5_runLength ∈ wU := wU_of (i := 438) (by decide +kernel) (by decide +kernel)
theorem wd_474 : Cond.selects RX5 yX5_runLength yX5_runLength ∈ wU := wU_of (i := 439) (by decide +kernel) (by decide +kernel)
set_option maxRecDepth 20000 in
theorem wd_475 : Cond.code yX5_runLength cX5_runLength 3 (some .int) ∈ wU := wU_of (i := 440) rfl rfl
theorem wd_476 : Cond.methodLink RX5 122 yX1_lengthOfRun ∈ wU := wU_of (i := 441) (by decide +kernel) (by decide +kernel)
theorem wd_477 : Cond.instanceMethod yX1_lengthOfRun ∈ wU := wU_of (i := 442) (by decide +kernel) (by decide +kernel)
theorem wd_478 : Cond.selects RX1 yX1_lengthOfRun yX1_lengthOfRun ∈ wU := wU_of (i := 443) (by decide +kernel) (by decide +kernel)
set_option maxRecDepth 20000 in
theorem wd_479 : Cond.code yX1_lengthOfRun cX1_lengthOfRun 5 (some .int) ∈ wU := wU_of (i := 444) rfl rfl
theorem wd_480 : Cond.methodLink RL 80 yX6_runLength ∈ wU := wU_of (i := 767) (by decide +kernel) (by decide +kernel)
theorem wd_481 : Cond.instanceMethod yX6_runLength ∈ wU := wU_of (i := 768) (by decide +kernel) (by decide +kernel)
theorem wd_482 : Cond.selects RX6 yX6_runLength yX6_runLength ∈ wU := wU_of (i := 769) (by decide +kernel) (by decide +kernel)
set_option maxRecDepth 20000 in
theorem wd_483 : Cond.code yX6_runLength cX6_runLength 5 (some .int) ∈ wU := wU_of (i := 770) rfl rfl
theorem wd_484 : Cond.methodLink RL 81 yX5_setPenCost ∈ wU := wU_of (i := 445) (by decide +kernel) (by decide +kernel)
theorem wd_485 : Cond.instanceMethod yX5_setPenCost ∈ wU := wU_of (i := 446) (by decide +kernel) (by decide +kernel)
theorem wd_486 : Cond.selects RX5 yX5_setPenCost yX5_setPenCost ∈ wU := wU_of (i := 447) (by decide +kernel) (by decide +kernel)
set_option maxRecDepth 20000 in
theorem wd_487 : Cond.code yX5_setPenCost cX5_setPenCost 3 (some .int) ∈ wU := wU_of (i := 448) rfl rfl
theorem wd_488 : Cond.methodLink RL 84 yX6_setPenCost ∈ wU := wU_of (i := 771) (by decide +kernel) (by decide +kernel)
theorem wd_489 : Cond.instanceMethod yX6_setPenCost ∈ wU := wU_of (i := 772) (by decide +kernel) (by decide +kernel)
theorem wd_490 : Cond.selects RX6 yX6_setPenCost yX6_setPenCost ∈ wU := wU_of (i := 773) (by decide +kernel) (by decide +kernel)
set_option maxRecDepth 20000 in
theorem wd_491 : Cond.code yX6_setPenCost cX6_setPenCost 3 (some .int) ∈ wU := wU_of (i := 774) rfl rfl
theorem wd_492 : Cond.methodLink RL 85 yX5_bestCost ∈ wU := wU_of (i := 449) (by decide +kernel) (by decide +kernel)
theorem wd_493 : Cond.instanceMethod yX5_bestCost ∈ wU := wU_of (i := 450) (by decide +kernel) (by decide +kernel)
theorem wd_494 : Cond.selects RX5 yX5_bestCost yX5_bestCost ∈ wU := wU_of (i := 451) (by decide +kernel) (by decide +kernel)
set_option maxRecDepth 20000 in
theorem wd_495 : Cond.code yX5_bestCost cX5_bestCost 1 (some .int) ∈ wU := wU_of (i := 452) rfl rfl
theorem wd_496 : Cond.methodLink RX5 132 yX0_find ∈ wU := wU_of (i := 453) (by decide +kernel) (by decide +kernel)
theorem wd_497 : Cond.instanceMethod yX0_find ∈ wU := wU_of (i := 454) (by decide +kernel) (by decide +kernel)
theorem wd_498 : Cond.selects RX0 yX0_find yX0_find ∈ wU := wU_of (i := 455) (by decide +kernel) (by decide +kernel)
set_option maxRecDepth 20000 in
theorem wd_499 : Cond.code yX0_find cX0_find 4 none ∈ wU := wU_of (i := 456) rfl rfl
theorem wd_500 : Cond.methodLink RX0 39 Lib.Math.min.name ∈ wU := wU_of (i := 458) (by decide +kernel) (by decide +kernel)
theorem wd_501 : Cond.fieldLink RX0 45 "PlotterPlanner$BestPlan" "codeCount" "I" ∈ wU := wU_of (i := 117) (by decide +kernel) (by decide +kernel)
theorem wd_502 : Cond.methodLink RX0 33 yX1_size ∈ wU := wU_of (i := 457) (by decide +kernel) (by decide +kernel)
theorem wd_503 : Cond.methodLink RX0 48 yX0_fillSteps ∈ wU := wU_of (i := 459) (by decide +kernel) (by decide +kernel)
theorem wd_504 : Cond.instanceMethod yX0_fillSteps ∈ wU := wU_of (i := 461) (by decide +kernel) (by decide +kernel)
theorem wd_505 : Cond.selects RX0 yX0_fillSteps yX0_fillSteps ∈ wU := wU_of (i := 18) (by decide +kernel) (by decide +kernel)
set_option maxRecDepth 20000 in
theorem wd_506 : Cond.code yX0_fillSteps cX0_fillSteps 5 none ∈ wU := wU_of (i := 462) rfl rfl
theorem wd_507 : Cond.methodLink RX0 59 yX1_stepCost ∈ wU := wU_of (i := 463) (by decide +kernel) (by decide +kernel)
theorem wd_508 : Cond.methodLink RX0 52 yX0_fillRests ∈ wU := wU_of (i := 464) (by decide +kernel) (by decide +kernel)
theorem wd_509 : Cond.instanceMethod yX0_fillRests ∈ wU := wU_of (i := 466) (by decide +kernel) (by decide +kernel)
theorem wd_510 : Cond.selects RX0 yX0_fillRests yX0_fillRests ∈ wU := wU_of (i := 19) (by decide +kernel) (by decide +kernel)
set_option maxRecDepth 20000 in
theorem wd_511 : Cond.code yX0_fillRests cX0_fillRests 6 none ∈ wU := wU_of (i := 467) rfl rfl
theorem wd_512 : Cond.methodLink RX0 63 yX0_contains ∈ wU := wU_of (i := 468) (by decide +kernel) (by decide +kernel)
theorem wd_513 : Cond.static yX0_contains ∈ wU := wU_of (i := 469) (by decide +kernel) (by decide +kernel)
set_option maxRecDepth 20000 in
theorem wd_514 : Cond.code yX0_contains cX0_contains 2 (some .boolean) ∈ wU := wU_of (i := 470) rfl rfl
theorem wd_515 : Cond.methodLink RX0 67 yX0_cheapestNext ∈ wU := wU_of (i := 471) (by decide +kernel) (by decide +kernel)
theorem wd_516 : Cond.instanceMethod yX0_cheapestNext ∈ wU := wU_of (i := 473) (by decide +kernel) (by decide +kernel)
theorem wd_517 : Cond.selects RX0 yX0_cheapestNext yX0_cheapestNext ∈ wU := wU_of (i := 20) (by decide +kernel) (by decide +kernel)
set_option maxRecDepth 20000 in
theorem wd_518 : Cond.code yX0_cheapestNext cX0_cheapestNext 7 (some .int) ∈ wU := wU_of (i := 474) rfl rfl
theorem wd_519 : Cond.methodLink RX0 70 yX0_costThrough ∈ wU := wU_of (i := 475) (by decide +kernel) (by decide +kernel)
theorem wd_520 : Cond.instanceMethod yX0_costThrough ∈ wU := wU_of (i := 477) (by decide +kernel) (by decide +kernel)
theorem wd_521 : Cond.selects RX0 yX0_costThrough yX0_costThrough ∈ wU := wU_of (i := 21) (by decide +kernel) (by decide +kernel)
set_option maxRecDepth 20000 in
theorem wd_522 : Cond.code yX0_costThrough cX0_costThrough 4 (some .int) ∈ wU := wU_of (i := 478) rfl rfl
theorem wd_523 : Cond.methodLink RX0 73 yX0_stepAt ∈ wU := wU_of (i := 479) (by decide +kernel) (by decide +kernel)
theorem wd_524 : Cond.instanceMethod yX0_stepAt ∈ wU := wU_of (i := 481) (by decide +kernel) (by decide +kernel)
theorem wd_525 : Cond.selects RX0 yX0_stepAt yX0_stepAt ∈ wU := wU_of (i := 22) (by decide +kernel) (by decide +kernel)
set_option maxRecDepth 20000 in
theorem wd_526 : Cond.code yX0_stepAt cX0_stepAt 4 (some .int) ∈ wU := wU_of (i := 482) rfl rfl
theorem wd_527 : Cond.methodLink RX0 76 yX0_without ∈ wU := wU_of (i := 483) (by decide +kernel) (by decide +kernel)
theorem wd_528 : Cond.static yX0_without ∈ wU := wU_of (i := 484) (by decide +kernel) (by decide +kernel)
set_option maxRecDepth 20000 in
theorem wd_529 : Cond.code yX0_without cX0_without 2 (some .int) ∈ wU := wU_of (i := 485) rfl rfl
theorem wd_530 : Cond.methodLink RX0 79 yX0_restAt ∈ wU := wU_of (i := 486) (by decide +kernel) (by decide +kernel)
theorem wd_531 : Cond.instanceMethod yX0_restAt ∈ wU := wU_of (i := 488) (by decide +kernel) (by decide +kernel)
theorem wd_532 : Cond.selects RX0 yX0_restAt yX0_restAt ∈ wU := wU_of (i := 23) (by decide +kernel) (by decide +kernel)
set_option maxRecDepth 20000 in
theorem wd_533 : Cond.code yX0_restAt cX0_restAt 4 (some .int) ∈ wU := wU_of (i := 489) rfl rfl
theorem wd_534 : Cond.methodLink RX0 56 yX0_follow ∈ wU := wU_of (i := 490) (by decide +kernel) (by decide +kernel)
theorem wd_535 : Cond.instanceMethod yX0_follow ∈ wU := wU_of (i := 492) (by decide +kernel) (by decide +kernel)
theorem wd_536 : Cond.selects RX0 yX0_follow yX0_follow ∈ wU := wU_of (i := 24) (by decide +kernel) (by decide +kernel)
set_option maxRecDepth 20000 in
theorem wd_537 : Cond.code yX0_follow cX0_follow 6 none ∈ wU := wU_of (i := 493) rfl rfl
theorem wd_538 : Cond.fieldLink RX0 25 "PlotterPlanner$BestPlan" "total" "I" ∈ wU := wU_of (i := 118) (by decide +kernel) (by decide +kernel)
theorem wd_539 : Cond.methodLink RX5 136 yX0_total ∈ wU := wU_of (i := 494) (by decide +kernel) (by decide +kernel)
theorem wd_540 : Cond.instanceMethod yX0_total ∈ wU := wU_of (i := 495) (by decide +kernel) (by decide +kernel)
theorem wd_541 : Cond.selects RX0 yX0_total yX0_total ∈ wU := wU_of (i := 496) (by decide +kernel) (by decide +kernel)
set_option maxRecDepth 20000 in
theorem wd_542 : Cond.code yX0_total cX0_total 1 (some .int) ∈ wU := wU_of (i := 497) rfl rfl
theorem wd_543 : Cond.methodLink RL 88 yX6_bestCost ∈ wU := wU_of (i := 775) (by decide +kernel) (by decide +kernel)
theorem wd_544 : Cond.instanceMethod yX6_bestCost ∈ wU := wU_of (i := 776) (by decide +kernel) (by decide +kernel)
theorem wd_545 : Cond.selects RX6 yX6_bestCost yX6_bestCost ∈ wU := wU_of (i := 777) (by decide +kernel) (by decide +kernel)
set_option maxRecDepth 20000 in
theorem wd_546 : Cond.code yX6_bestCost cX6_bestCost 1 (some .int) ∈ wU := wU_of (i := 778) rfl rfl
theorem wd_547 : Cond.methodLink RX6 108 yX6_finds ∈ wU := wU_of (i := 779) (by decide +kernel) (by decide +kernel)
theorem wd_548 : Cond.instanceMethod yX6_finds ∈ wU := wU_of (i := 781) (by decide +kernel) (by decide +kernel)
theorem wd_549 : Cond.selects RX6 yX6_finds yX6_finds ∈ wU := wU_of (i := 40) (by decide +kernel) (by decide +kernel)
set_option maxRecDepth 20000 in
theorem wd_550 : Cond.code yX6_finds cX6_finds 7 (some .int) ∈ wU := wU_of (i := 782) rfl rfl
theorem wd_551 : Cond.methodLink RX6 105 yX6_ahead ∈ wU := wU_of (i := 783) (by decide +kernel) (by decide +kernel)
theorem wd_552 : Cond.instanceMethod yX6_ahead ∈ wU := wU_of (i := 785) (by decide +kernel) (by decide +kernel)
theorem wd_553 : Cond.selects RX6 yX6_ahead yX6_ahead ∈ wU := wU_of (i := 41) (by decide +kernel) (by decide +kernel)
set_option maxRecDepth 20000 in
theorem wd_554 : Cond.code yX6_ahead cX6_ahead 6 (some .int) ∈ wU := wU_of (i := 786) rfl rfl
theorem wd_555 : Cond.constant RX6 104 (1000000) ∈ wU := wU_of (i := 787) (by decide +kernel) (by decide +kernel)
theorem wd_556 : Cond.methodLink RL 89 yX5_bestAt ∈ wU := wU_of (i := 498) (by decide +kernel) (by decide +kernel)
theorem wd_557 : Cond.instanceMethod yX5_bestAt ∈ wU := wU_of (i := 499) (by decide +kernel) (by decide +kernel)
theorem wd_558 : Cond.selects RX5 yX5_bestAt yX5_bestAt ∈ wU := wU_of (i := 500) (by decide +kernel) (by decide +kernel)
set_option maxRecDepth 20000 in
theorem wd_559 : Cond.code yX5_bestAt cX5_bestAt 2 (some .int) ∈ wU := wU_of (i := 501) rfl rfl
theorem wd_560 : Cond.methodLink RX5 139 yX0_codeAt ∈ wU := wU_of (i := 502) (by decide +kernel) (by decide +kernel)
theorem wd_561 : Cond.instanceMethod yX0_codeAt ∈ wU := wU_of (i := 503) (by decide +kernel) (by decide +kernel)
theorem wd_562 : Cond.selects RX0 yX0_codeAt yX0_codeAt ∈ wU := wU_of (i := 504) (by decide +kernel) (by decide +kernel)
set_option maxRecDepth 20000 in
theorem wd_563 : Cond.code yX0_codeAt cX0_codeAt 2 (some .int) ∈ wU := wU_of (i := 505) rfl rfl
theorem wd_564 : Cond.methodLink RL 92 yX6_bestAt ∈ wU := wU_of (i := 788) (by decide +kernel) (by decide +kernel)
theorem wd_565 : Cond.instanceMethod yX6_bestAt ∈ wU := wU_of (i := 789) (by decide +kernel) (by decide +kernel)
theorem wd_566 : Cond.selects RX6 yX6_bestAt yX6_bestAt ∈ wU := wU_of (i := 790) (by decide +kernel) (by decide +kernel)
set_option maxRecDepth 20000 in
theorem wd_567 : Cond.code yX6_bestAt cX6_bestAt 2 (some .int) ∈ wU := wU_of (i := 791) rfl rfl
theorem wd_568 : Cond.methodLink RL 93 yX5_adoptBest ∈ wU := wU_of (i := 507) (by decide +kernel) (by decide +kernel)
theorem wd_569 : Cond.instanceMethod yX5_adoptBest ∈ wU := wU_of (i := 508) (by decide +kernel) (by decide +kernel)
theorem wd_570 : Cond.selects RX5 yX5_adoptBest yX5_adoptBest ∈ wU := wU_of (i := 509) (by decide +kernel) (by decide +kernel)
set_option maxRecDepth 20000 in
theorem wd_571 : Cond.code yX5_adoptBest cX5_adoptBest 2 (some .int) ∈ wU := wU_of (i := 510) rfl rfl
theorem wd_572 : Cond.methodLink RX5 140 yX1_setCode ∈ wU := wU_of (i := 511) (by decide +kernel) (by decide +kernel)
theorem wd_573 : Cond.instanceMethod yX1_setCode ∈ wU := wU_of (i := 512) (by decide +kernel) (by decide +kernel)
theorem wd_574 : Cond.selects RX1 yX1_setCode yX1_setCode ∈ wU := wU_of (i := 513) (by decide +kernel) (by decide +kernel)
set_option maxRecDepth 20000 in
theorem wd_575 : Cond.code yX1_setCode cX1_setCode 3 none ∈ wU := wU_of (i := 514) rfl rfl
theorem wd_576 : Cond.methodLink RL 96 yX6_adoptBest ∈ wU := wU_of (i := 792) (by decide +kernel) (by decide +kernel)
theorem wd_577 : Cond.instanceMethod yX6_adoptBest ∈ wU := wU_of (i := 793) (by decide +kernel) (by decide +kernel)
theorem wd_578 : Cond.selects RX6 yX6_adoptBest yX6_adoptBest ∈ wU := wU_of (i := 794) (by decide +kernel) (by decide +kernel)
set_option maxRecDepth 20000 in
theorem wd_579 : Cond.code yX6_adoptBest cX6_adoptBest 3 (some .int) ∈ wU := wU_of (i := 795) rfl rfl
theorem wd_580 : Cond.methodLink RL 97 yX5_adoptNearest ∈ wU := wU_of (i := 515) (by decide +kernel) (by decide +kernel)
theorem wd_581 : Cond.instanceMethod yX5_adoptNearest ∈ wU := wU_of (i := 516) (by decide +kernel) (by decide +kernel)
theorem wd_582 : Cond.selects RX5 yX5_adoptNearest yX5_adoptNearest ∈ wU := wU_of (i := 517) (by decide +kernel) (by decide +kernel)
set_option maxRecDepth 20000 in
theorem wd_583 : Cond.code yX5_adoptNearest cX5_adoptNearest 1 (some .int) ∈ wU := wU_of (i := 518) rfl rfl
theorem wd_584 : Cond.methodLink RX5 143 yX1_orderByNearest ∈ wU := wU_of (i := 519) (by decide +kernel) (by decide +kernel)
theorem wd_585 : Cond.instanceMethod yX1_orderByNearest ∈ wU := wU_of (i := 520) (by decide +kernel) (by decide +kernel)
theorem wd_586 : Cond.selects RX1 yX1_orderByNearest yX1_orderByNearest ∈ wU := wU_of (i := 521) (by decide +kernel) (by decide +kernel)
set_option maxRecDepth 20000 in
theorem wd_587 : Cond.code yX1_orderByNearest cX1_orderByNearest 5 none ∈ wU := wU_of (i := 522) rfl rfl
theorem wd_588 : Cond.methodLink RX1 55 yX1_nearestCode ∈ wU := wU_of (i := 523) (by decide +kernel) (by decide +kernel)
theorem wd_589 : Cond.instanceMethod yX1_nearestCode ∈ wU := wU_of (i := 525) (by decide +kernel) (by decide +kernel)
theorem wd_590 : Cond.selects RX1 yX1_nearestCode yX1_nearestCode ∈ wU := wU_of (i := 25) (by decide +kernel) (by decide +kernel)
set_option maxRecDepth 20000 in
theorem wd_591 : Cond.code yX1_nearestCode cX1_nearestCode 8 (some .int) ∈ wU := wU_of (i := 526) rfl rfl
theorem wd_592 : Cond.methodLink RX1 59 yX1_setCode ∈ wU := wU_of (i := 527) (by decide +kernel) (by decide +kernel)
theorem wd_593 : Cond.methodLink RL 100 yX6_adoptNearest ∈ wU := wU_of (i := 796) (by decide +kernel) (by decide +kernel)
theorem wd_594 : Cond.instanceMethod yX6_adoptNearest ∈ wU := wU_of (i := 797) (by decide +kernel) (by decide +kernel)
theorem wd_595 : Cond.selects RX6 yX6_adoptNearest yX6_adoptNearest ∈ wU := wU_of (i := 798) (by decide +kernel) (by decide +kernel)
set_option maxRecDepth 20000 in
theorem wd_596 : Cond.code yX6_adoptNearest cX6_adoptNearest 8 (some .int) ∈ wU := wU_of (i := 799) rfl rfl
theorem wd_597 : Cond.methodLink RL 101 yX5_setSquareLimit ∈ wU := wU_of (i := 528) (by decide +kernel) (by decide +kernel)
theorem wd_598 : Cond.instanceMethod yX5_setSquareLimit ∈ wU := wU_of (i := 529) (by decide +kernel) (by decide +kernel)
theorem wd_599 : Cond.selects RX5 yX5_setSquareLimit yX5_setSquareLimit ∈ wU := wU_of (i := 530) (by decide +kernel) (by decide +kernel)
set_option maxRecDepth 20000 in
theorem wd_600 : Cond.code yX5_setSquareLimit cX5_setSquareLimit 3 (some .int) ∈ wU := wU_of (i := 531) rfl rfl
theorem wd_601 : Cond.methodLink RL 104 yX6_setSquareLimit ∈ wU := wU_of (i := 800) (by decide +kernel) (by decide +kernel)
theorem wd_602 : Cond.instanceMethod yX6_setSquareLimit ∈ wU := wU_of (i := 801) (by decide +kernel) (by decide +kernel)
theorem wd_603 : Cond.selects RX6 yX6_setSquareLimit yX6_setSquareLimit ∈ wU := wU_of (i := 802) (by decide +kernel) (by decide +kernel)
set_option maxRecDepth 20000 in
theorem wd_604 : Cond.code yX6_setSquareLimit cX6_setSquareLimit 3 (some .int) ∈ wU := wU_of (i := 803) rfl rfl
theorem wd_605 : Cond.methodLink RL 105 yX5_setAcceleration ∈ wU := wU_of (i := 532) (by decide +kernel) (by decide +kernel)
theorem wd_606 : Cond.instanceMethod yX5_setAcceleration ∈ wU := wU_of (i := 533) (by decide +kernel) (by decide +kernel)
theorem wd_607 : Cond.selects RX5 yX5_setAcceleration yX5_setAcceleration ∈ wU := wU_of (i := 534) (by decide +kernel) (by decide +kernel)
set_option maxRecDepth 20000 in
theorem wd_608 : Cond.code yX5_setAcceleration cX5_setAcceleration 3 (some .int) ∈ wU := wU_of (i := 535) rfl rfl
theorem wd_609 : Cond.methodLink RL 108 yX6_setAcceleration ∈ wU := wU_of (i := 804) (by decide +kernel) (by decide +kernel)
theorem wd_610 : Cond.instanceMethod yX6_setAcceleration ∈ wU := wU_of (i := 805) (by decide +kernel) (by decide +kernel)
theorem wd_611 : Cond.selects RX6 yX6_setAcceleration yX6_setAcceleration ∈ wU := wU_of (i := 806) (by decide +kernel) (by decide +kernel)
set_option maxRecDepth 20000 in
theorem wd_612 : Cond.code yX6_setAcceleration cX6_setAcceleration 3 (some .int) ∈ wU := wU_of (i := 807) rfl rfl
theorem wd_613 : Cond.methodLink RL 109 yX5_cornerLimit ∈ wU := wU_of (i := 536) (by decide +kernel) (by decide +kernel)
theorem wd_614 : Cond.instanceMethod yX5_cornerLimit ∈ wU := wU_of (i := 537) (by decide +kernel) (by decide +kernel)
theorem wd_615 : Cond.selects RX5 yX5_cornerLimit yX5_cornerLimit ∈ wU := wU_of (i := 538) (by decide +kernel) (by decide +kernel)
set_option maxRecDepth 20000 in
theorem wd_616 : Cond.code yX5_cornerLimit cX5_cornerLimit 2 (some .int) ∈ wU := wU_of (i := 539) rfl rfl
theorem wd_617 : Cond.methodLink RX5 146 yX1_isLinkedToNext ∈ wU := wU_of (i := 540) (by decide +kernel) (by decide +kernel)
theorem wd_618 : Cond.methodLink RX5 149 yX1_cornerSquare ∈ wU := wU_of (i := 541) (by decide +kernel) (by decide +kernel)
theorem wd_619 : Cond.instanceMethod yX1_cornerSquare ∈ wU := wU_of (i := 542) (by decide +kernel) (by decide +kernel)
theorem wd_620 : Cond.selects RX1 yX1_cornerSquare yX1_cornerSquare ∈ wU := wU_of (i := 543) (by decide +kernel) (by decide +kernel)
set_option maxRecDepth 20000 in
theorem wd_621 : Cond.code yX1_cornerSquare cX1_cornerSquare 9 (some .int) ∈ wU := wU_of (i := 544) rfl rfl
theorem wd_622 : Cond.methodLink RX1 120 yX1_codeAt ∈ wU := wU_of (i := 545) (by decide +kernel) (by decide +kernel)
theorem wd_623 : Cond.methodLink RL 112 yX6_cornerLimit ∈ wU := wU_of (i := 808) (by decide +kernel) (by decide +kernel)
theorem wd_624 : Cond.instanceMethod yX6_cornerLimit ∈ wU := wU_of (i := 809) (by decide +kernel) (by decide +kernel)
theorem wd_625 : Cond.selects RX6 yX6_cornerLimit yX6_cornerLimit ∈ wU := wU_of (i := 810) (by decide +kernel) (by decide +kernel)
set_option maxRecDepth 20000 in
theorem wd_626 : Cond.code yX6_cornerLimit cX6_cornerLimit 2 (some .int) ∈ wU := wU_of (i := 811) rfl rfl
theorem wd_627 : Cond.methodLink RX6 118 yX6_corner ∈ wU := wU_of (i := 812) (by decide +kernel) (by decide +kernel)
theorem wd_628 : Cond.instanceMethod yX6_corner ∈ wU := wU_of (i := 814) (by decide +kernel) (by decide +kernel)
theorem wd_629 : Cond.selects RX6 yX6_corner yX6_corner ∈ wU := wU_of (i := 42) (by decide +kernel) (by decide +kernel)
set_option maxRecDepth 20000 in
theorem wd_630 : Cond.code yX6_corner cX6_corner 4 (some .int) ∈ wU := wU_of (i := 815) rfl rfl
theorem wd_631 : Cond.methodLink RX6 112 yX6_dx ∈ wU := wU_of (i := 816) (by decide +kernel) (by decide +kernel)
theorem wd_632 : Cond.instanceMethod yX6_dx ∈ wU := wU_of (i := 818) (by decide +kernel) (by decide +kernel)
theorem wd_633 : Cond.selects RX6 yX6_dx yX6_dx ∈ wU := wU_of (i := 43) (by decide +kernel) (by decide +kernel)
set_option maxRecDepth 20000 in
theorem wd_634 : Cond.code yX6_dx cX6_dx 2 (some .int) ∈ wU := wU_of (i := 819) rfl rfl
theorem wd_635 : Cond.methodLink RX6 115 yX6_dy ∈ wU := wU_of (i := 820) (by decide +kernel) (by decide +kernel)
theorem wd_636 : Cond.instanceMethod yX6_dy ∈ wU := wU_of (i := 822) (by decide +kernel) (by decide +kernel)
theorem wd_637 : Cond.selects RX6 yX6_dy yX6_dy ∈ wU := wU_of (i := 44) (by decide +kernel) (by decide +kernel)
set_option maxRecDepth 20000 in
theorem wd_638 : Cond.code yX6_dy cX6_dy 2 (some .int) ∈ wU := wU_of (i := 823) rfl rfl
theorem wd_639 : Cond.methodLink RL 113 yX5_endSquare ∈ wU := wU_of (i := 546) (by decide +kernel) (by decide +kernel)
theorem wd_640 : Cond.instanceMethod yX5_endSquare ∈ wU := wU_of (i := 547) (by decide +kernel) (by decide +kernel)
theorem wd_641 : Cond.selects RX5 yX5_endSquare yX5_endSquare ∈ wU := wU_of (i := 548) (by decide +kernel) (by decide +kernel)
set_option maxRecDepth 20000 in
theorem wd_642 : Cond.code yX5_endSquare cX5_endSquare 2 (some .int) ∈ wU := wU_of (i := 549) rfl rfl
theorem wd_643 : Cond.methodLink RX5 153 yX4_compute ∈ wU := wU_of (i := 550) (by decide +kernel) (by decide +kernel)
theorem wd_644 : Cond.instanceMethod yX4_compute ∈ wU := wU_of (i := 551) (by decide +kernel) (by decide +kernel)
theorem wd_645 : Cond.selects RX4 yX4_compute yX4_compute ∈ wU := wU_of (i := 552) (by decide +kernel) (by decide +kernel)
set_option maxRecDepth 20000 in
theorem wd_646 : Cond.code yX4_compute cX4_compute 8 none ∈ wU := wU_of (i := 553) rfl rfl
theorem wd_647 : Cond.methodLink RX4 21 Lib.Math.min.name ∈ wU := wU_of (i := 555) (by decide +kernel) (by decide +kernel)
theorem wd_648 : Cond.methodLink RX4 15 yX1_size ∈ wU := wU_of (i := 554) (by decide +kernel) (by decide +kernel)
theorem wd_649 : Cond.methodLink RX4 27 yX1_isLinkedToNext ∈ wU := wU_of (i := 556) (by decide +kernel) (by decide +kernel)
theorem wd_650 : Cond.methodLink RX4 31 yX4_beginAt ∈ wU := wU_of (i := 557) (by decide +kernel) (by decide +kernel)
theorem wd_651 : Cond.instanceMethod yX4_beginAt ∈ wU := wU_of (i := 558) (by decide +kernel) (by decide +kernel)
theorem wd_652 : Cond.selects RX4 yX4_beginAt yX4_beginAt ∈ wU := wU_of (i := 559) (by decide +kernel) (by decide +kernel)
set_option maxRecDepth 20000 in
theorem wd_653 : Cond.code yX4_beginAt cX4_beginAt 2 (some .int) ∈ wU := wU_of (i := 560) rfl rfl
theorem wd_654 : Cond.methodLink RX4 45 yX4_endAt ∈ wU := wU_of (i := 561) (by decide +kernel) (by decide +kernel)
theorem wd_655 : Cond.instanceMethod yX4_endAt ∈ wU := wU_of (i := 562) (by decide +kernel) (by decide +kernel)
theorem wd_656 : Cond.selects RX4 yX4_endAt yX4_endAt ∈ wU := wU_of (i := 563) (by decide +kernel) (by decide +kernel)
set_option maxRecDepth 20000 in
theorem wd_657 : Cond.code yX4_endAt cX4_endAt 2 (some .int) ∈ wU := wU_of (i := 564) rfl rfl
theorem wd_658 : Cond.methodLink RX4 35 yX1_lengthAt ∈ wU := wU_of (i := 566) (by decide +kernel) (by decide +kernel)
theorem wd_659 : Cond.instanceMethod yX1_lengthAt ∈ wU := wU_of (i := 567) (by decide +kernel) (by decide +kernel)
theorem wd_660 : Cond.selects RX1 yX1_lengthAt yX1_lengthAt ∈ wU := wU_of (i := 568) (by decide +kernel) (by decide +kernel)
set_option maxRecDepth 20000 in
theorem wd_661 : Cond.code yX1_lengthAt cX1_lengthAt 3 (some .int) ∈ wU := wU_of (i := 569) rfl rfl
theorem wd_662 : Cond.methodLink RX4 38 yX1_cornerSquare ∈ wU := wU_of (i := 570) (by decide +kernel) (by decide +kernel)
theorem wd_663 : Cond.methodLink RX5 157 yX4_endAt ∈ wU := wU_of (i := 571) (by decide +kernel) (by decide +kernel)
theorem wd_664 : Cond.methodLink RL 116 yX6_endSquare ∈ wU := wU_of (i := 824) (by decide +kernel) (by decide +kernel)
theorem wd_665 : Cond.instanceMethod yX6_endSquare ∈ wU := wU_of (i := 825) (by decide +kernel) (by decide +kernel)
theorem wd_666 : Cond.selects RX6 yX6_endSquare yX6_endSquare ∈ wU := wU_of (i := 826) (by decide +kernel) (by decide +kernel)
set_option maxRecDepth 20000 in
theorem wd_667 : Cond.code yX6_endSquare cX6_endSquare 2 (some .int) ∈ wU := wU_of (i := 827) rfl rfl
theorem wd_668 : Cond.methodLink RX6 127 yX6_speeds ∈ wU := wU_of (i := 828) (by decide +kernel) (by decide +kernel)
theorem wd_669 : Cond.instanceMethod yX6_speeds ∈ wU := wU_of (i := 830) (by decide +kernel) (by decide +kernel)
theorem wd_670 : Cond.selects RX6 yX6_speeds yX6_speeds ∈ wU := wU_of (i := 45) (by decide +kernel) (by decide +kernel)
set_option maxRecDepth 20000 in
theorem wd_671 : Cond.code yX6_speeds cX6_speeds 4 none ∈ wU := wU_of (i := 831) rfl rfl
theorem wd_672 : Cond.methodLink RX6 121 yX6_before ∈ wU := wU_of (i := 832) (by decide +kernel) (by decide +kernel)
theorem wd_673 : Cond.instanceMethod yX6_before ∈ wU := wU_of (i := 834) (by decide +kernel) (by decide +kernel)
theorem wd_674 : Cond.selects RX6 yX6_before yX6_before ∈ wU := wU_of (i := 46) (by decide +kernel) (by decide +kernel)
set_option maxRecDepth 20000 in
theorem wd_675 : Cond.code yX6_before cX6_before 2 (some .int) ∈ wU := wU_of (i := 835) rfl rfl
theorem wd_676 : Cond.methodLink RX6 124 yX6_gain ∈ wU := wU_of (i := 836) (by decide +kernel) (by decide +kernel)
theorem wd_677 : Cond.instanceMethod yX6_gain ∈ wU := wU_of (i := 838) (by decide +kernel) (by decide +kernel)
theorem wd_678 : Cond.selects RX6 yX6_gain yX6_gain ∈ wU := wU_of (i := 47) (by decide +kernel) (by decide +kernel)
set_option maxRecDepth 20000 in
theorem wd_679 : Cond.code yX6_gain cX6_gain 2 (some .int) ∈ wU := wU_of (i := 839) rfl rfl
theorem wd_680 : Cond.methodLink RL 117 yX5_peakSquare ∈ wU := wU_of (i := 572) (by decide +kernel) (by decide +kernel)
theorem wd_681 : Cond.instanceMethod yX5_peakSquare ∈ wU := wU_of (i := 573) (by decide +kernel) (by decide +kernel)
theorem wd_682 : Cond.selects RX5 yX5_peakSquare yX5_peakSquare ∈ wU := wU_of (i := 574) (by decide +kernel) (by decide +kernel)
set_option maxRecDepth 20000 in
theorem wd_683 : Cond.code yX5_peakSquare cX5_peakSquare 3 (some .int) ∈ wU := wU_of (i := 575) rfl rfl
theorem wd_684 : Cond.methodLink RX5 166 Lib.Math.min.name ∈ wU := wU_of (i := 578) (by decide +kernel) (by decide +kernel)
theorem wd_685 : Cond.methodLink RX5 160 yX4_beginAt ∈ wU := wU_of (i := 576) (by decide +kernel) (by decide +kernel)
theorem wd_686 : Cond.methodLink RX5 163 yX1_lengthAt ∈ wU := wU_of (i := 577) (by decide +kernel) (by decide +kernel)
theorem wd_687 : Cond.methodLink RL 120 yX6_peakSquare ∈ wU := wU_of (i := 840) (by decide +kernel) (by decide +kernel)
theorem wd_688 : Cond.instanceMethod yX6_peakSquare ∈ wU := wU_of (i := 841) (by decide +kernel) (by decide +kernel)
theorem wd_689 : Cond.selects RX6 yX6_peakSquare yX6_peakSquare ∈ wU := wU_of (i := 842) (by decide +kernel) (by decide +kernel)
set_option maxRecDepth 20000 in
theorem wd_690 : Cond.code yX6_peakSquare cX6_peakSquare 3 (some .int) ∈ wU := wU_of (i := 843) rfl rfl
theorem wd_691 : Cond.methodLink RL 121 yX5_undo ∈ wU := wU_of (i := 579) (by decide +kernel) (by decide +kernel)
theorem wd_692 : Cond.instanceMethod yX5_undo ∈ wU := wU_of (i := 580) (by decide +kernel) (by decide +kernel)
theorem wd_693 : Cond.selects RX5 yX5_undo yX5_undo ∈ wU := wU_of (i := 581) (by decide +kernel) (by decide +kernel)
set_option maxRecDepth 20000 in
theorem wd_694 : Cond.code yX5_undo cX5_undo 1 (some .int) ∈ wU := wU_of (i := 582) rfl rfl
theorem wd_695 : Cond.methodLink RX5 171 yX2_isEmpty ∈ wU := wU_of (i := 583) (by decide +kernel) (by decide +kernel)
theorem wd_696 : Cond.instanceMethod yX2_isEmpty ∈ wU := wU_of (i := 584) (by decide +kernel) (by decide +kernel)
theorem wd_697 : Cond.selects RX2 yX2_isEmpty yX2_isEmpty ∈ wU := wU_of (i := 585) (by decide +kernel) (by decide +kernel)
set_option maxRecDepth 20000 in
theorem wd_698 : Cond.code yX2_isEmpty cX2_isEmpty 1 (some .boolean) ∈ wU := wU_of (i := 586) rfl rfl
theorem wd_699 : Cond.methodLink RX5 175 yX2_restore ∈ wU := wU_of (i := 587) (by decide +kernel) (by decide +kernel)
theorem wd_700 : Cond.instanceMethod yX2_restore ∈ wU := wU_of (i := 588) (by decide +kernel) (by decide +kernel)
theorem wd_701 : Cond.selects RX2 yX2_restore yX2_restore ∈ wU := wU_of (i := 589) (by decide +kernel) (by decide +kernel)
set_option maxRecDepth 20000 in
theorem wd_702 : Cond.code yX2_restore cX2_restore 4 none ∈ wU := wU_of (i := 590) rfl rfl
theorem wd_703 : Cond.methodLink RX5 179 yX2_depth ∈ wU := wU_of (i := 591) (by decide +kernel) (by decide +kernel)
theorem wd_704 : Cond.instanceMethod yX2_depth ∈ wU := wU_of (i := 592) (by decide +kernel) (by decide +kernel)
theorem wd_705 : Cond.selects RX2 yX2_depth yX2_depth ∈ wU := wU_of (i := 593) (by decide +kernel) (by decide +kernel)
set_option maxRecDepth 20000 in
theorem wd_706 : Cond.code yX2_depth cX2_depth 1 (some .int) ∈ wU := wU_of (i := 594) rfl rfl
theorem wd_707 : Cond.methodLink RL 124 yX6_undo ∈ wU := wU_of (i := 632) (by decide +kernel) (by decide +kernel)
theorem wd_708 : Cond.instanceMethod yX6_undo ∈ wU := wU_of (i := 633) (by decide +kernel) (by decide +kernel)
theorem wd_709 : Cond.selects RX6 yX6_undo yX6_undo ∈ wU := wU_of (i := 634) (by decide +kernel) (by decide +kernel)
set_option maxRecDepth 20000 in
theorem wd_710 : Cond.code yX6_undo cX6_undo 2 (some .int) ∈ wU := wU_of (i := 635) rfl rfl
theorem iX0 : ∀ w ∈ wsX00, w ∈ wU := wU_ofd _ (by decide +kernel) (by decide +kernel)
theorem iX1 : ∀ w ∈ wsX10, w ∈ wU := wU_ofd _ (by decide +kernel) (by decide +kernel)
theorem iX2 : ∀ w ∈ wsX20, w ∈ wU := wU_ofd _ (by decide +kernel) (by decide +kernel)
theorem iX3 : ∀ w ∈ wsX30, w ∈ wU := wU_ofd _ (by decide +kernel) (by decide +kernel)
theorem iX4 : ∀ w ∈ wsX40, w ∈ wU := wU_ofd _ (by decide +kernel) (by decide +kernel)
theorem iX5 : ∀ w ∈ wsX50, w ∈ wU := wU_ofd _ (by decide +kernel) (by decide +kernel)
theorem iX6 : ∀ w ∈ wsX60, w ∈ wU := wU_ofd _ (by decide +kernel) (by decide +kernel)
end
section
-- ===== numbers: zI of Int, nI of Nat =====
def zI (z : Int) : Int32 := Int32.ofInt z
theorem zI_nI (n : Nat) : zI (n : Int) = nI n := by
  unfold zI nI
  rfl
theorem nI_zI (n : Nat) : nI n = zI (n : Int) := (zI_nI n).symm
theorem zI_add (a b : Int) : zI a + zI b = zI (a + b) := (Int32.ofInt_add a b).symm
theorem zI_sub (a b : Int) : zI a - zI b = zI (a - b) := (Int32.ofInt_sub a b).symm
theorem zI_mul (a b : Int) : zI a * zI b = zI (a * b) := (Int32.ofInt_mul a b).symm
theorem zI_neg (a : Int) : 0 - zI a = zI (-a) := by
  rw [show (0 : Int32) = zI 0 from rfl, zI_sub]; congr 1; omega
def zR (z : Int) : Prop := -2147483648 ≤ z ∧ z < 2147483648
theorem zI_toInt {z : Int} (h : zR z) : (zI z).toInt = z := by
  unfold zI
  rw [Int32.toInt_ofInt]
  unfold zR at h
  rw [Int.bmod_eq_of_le] <;> simp <;> omega
theorem zI_of (x : Int32) : ∃ z : Int, zR z ∧ x = zI z := by
  refine ⟨x.toInt, ?_, ?_⟩
  · have h1 := x.le_toInt
    have h2 := x.toInt_lt
    unfold zR; simp at h1 h2; omega
  · exact (Int32.ofInt_toInt x).symm
theorem zI_lt {a b : Int} (ha : zR a) (hb : zR b) : zI a < zI b ↔ a < b := by
  rw [Int32.lt_iff_toInt_lt, zI_toInt ha, zI_toInt hb]
theorem zI_le {a b : Int} (ha : zR a) (hb : zR b) : zI a ≤ zI b ↔ a ≤ b := by
  rw [Int32.le_iff_toInt_le, zI_toInt ha, zI_toInt hb]
theorem zI_eq {a b : Int} (ha : zR a) (hb : zR b) : zI a = zI b ↔ a = b := by
  rw [← Int32.toInt_inj, zI_toInt ha, zI_toInt hb]
theorem zR_n {n : Nat} (h : n < 2147483648) : zR (n : Int) := by unfold zR; omega
theorem zn_add (a : Int) (b : Nat) : zI a + nI b = zI (a + b) := by rw [nI_zI, zI_add]
theorem nz_add (a : Nat) (b : Int) : nI a + zI b = zI (a + b) := by rw [nI_zI, zI_add]
theorem zn_sub (a : Int) (b : Nat) : zI a - nI b = zI (a - b) := by rw [nI_zI, zI_sub]
theorem nz_sub (a : Nat) (b : Int) : nI a - zI b = zI (a - b) := by rw [nI_zI, zI_sub]
theorem nn_sub (a b : Nat) : nI a - nI b = zI ((a : Int) - b) := by rw [nI_zI, nI_zI, zI_sub]
theorem zn_mul (a : Int) (b : Nat) : zI a * nI b = zI (a * b) := by rw [nI_zI, zI_mul]
theorem nz_mul (a : Nat) (b : Int) : nI a * zI b = zI (a * b) := by rw [nI_zI, zI_mul]
theorem zn_of {z : Int} {n : Nat} (h : z = n) : zI z = nI n := by rw [h, zI_nI]
theorem n_add (a b : Nat) : nI a + nI b = nI (a + b) := nI_add a b
theorem n_mul (a b : Nat) : nI a * nI b = nI (a * b) := pk_mul a b
theorem n_sub {a b : Nat} (h : b ≤ a) : nI a - nI b = nI (a - b) := pk_sub h
theorem n_div {a d : Nat} (ha : a < 2147483648) (h0 : 0 < d) (hd : d < 2147483648) : nI a / nI d = nI (a / d) := pk_div ha h0 hd
theorem n_rem {a d : Nat} (ha : a < 2147483648) (h0 : 0 < d) (hd : d < 2147483648) : nI a - nI a / nI d * nI d = nI (a % d) := pk_rem ha h0 hd
theorem n_and (a b : Nat) : nI a &&& nI b = nI (a &&& b) := by
  apply Int32.toBitVec_inj.mp
  simp [nI, BitVec.ofNat_and]
theorem n_or (a b : Nat) : nI a ||| nI b = nI (a ||| b) := by
  apply Int32.toBitVec_inj.mp
  simp [nI, BitVec.ofNat_or]
theorem n_xor (a b : Nat) : nI a ^^^ nI b = nI (a ^^^ b) := by
  apply Int32.toBitVec_inj.mp
  simp [nI, BitVec.ofNat_xor]
theorem n_31 : ∀ k, k < 32 → ((nI k &&& 31).toBitVec.smod 32).toNat = k := by decide +kernel
theorem n_shl {a k : Nat} (hk : k < 31) (h : a * 2 ^ k < 2147483648) : nI a <<< (nI k &&& 31) = nI (a * 2 ^ k) := by
  exact pk_shlN (nI k &&& 31) k (n_31 k (by omega)) (by omega)
theorem n_shr {a k : Nat} (ha : a < 2147483648) (hk : k < 31) : nI a >>> (nI k &&& 31) = nI (a / 2 ^ k) := by
  exact pk_shrN (by omega) (nI k &&& 31) k (n_31 k (by omega))
theorem n_toNat {n : Nat} (h : n < 2147483648) : (nI n).toNatClampNeg = n := nI_clamp (by omega)
theorem n_in {n N : Nat} (h : n < N) (hN : N < 2147483648) : vp_in (nI n) N := vp_in_nI h (by omega)
theorem n_lt {a b : Nat} (ha : a < 2147483648) (hb : b < 2147483648) : nI a < nI b ↔ a < b := nI_ltI (by omega) (by omega)
theorem n_le {a b : Nat} (ha : a < 2147483648) (hb : b < 2147483648) : nI a ≤ nI b ↔ a ≤ b := nI_leI (by omega) (by omega)
theorem n_eq {a b : Nat} (ha : a < 2147483648) (hb : b < 2147483648) : nI a = nI b ↔ a = b := nI_eq (by omega) (by omega)
def zB (P : Prop) [Decidable P] : Nat := if P then 1 else 0
theorem zB_t {P : Prop} [Decidable P] (h : P) : zB P = 1 := if_pos h
theorem zB_f {P : Prop} [Decidable P] (h : ¬ P) : zB P = 0 := if_neg h
theorem zB_le (P : Prop) [Decidable P] : zB P ≤ 1 := by unfold zB; split <;> omega
theorem zB_z {P : Prop} [Decidable P] : nI (zB P) = 0 ↔ ¬ P := by
  unfold zB
  by_cases h : P
  · rw [if_pos h]; simp [h]; decide
  · rw [if_neg h]; simp [h]; rfl
theorem zB_n {P : Prop} [Decidable P] : ¬ nI (zB P) = 0 ↔ P := by
  rw [zB_z]; exact Decidable.not_not
theorem zB_nar (P : Prop) [Decidable P] : narrow .boolean (.int (nI (zB P))) = .int (nI (zB P)) := by
  unfold zB
  by_cases h : P
  · rw [if_pos h]; decide
  · rw [if_neg h]; decide
theorem z_probe (a b : Int) : (if a < b then a else b) ≤ a := by omega
theorem z_probe2 (a : Int) (h : 0 ≤ a) : a / 2 ≤ a ∧ a % 2 < 2 ∧ (a.natAbs : Int) = a ∧ max a 3 ≥ 3 := by omega
end
section
-- ===== the world of this claim =====
/-- the words of private members that a nest mate reaches -/
def zN (U : State) : Prop := va_Nw (.methodLinkNest RX0 29 yX5_isWithin RX5) U ∧ va_Nw (.methodLinkNest RX1 116 yX5_isWithin RX5) U ∧ va_Nw (.methodLinkNest RX4 41 yX5_isWithin RX5) U ∧ va_Nw (.methodLinkNest RX2 17 yX1_init RX5) U ∧ va_Nw (.methodLinkNest RX5 11 yX1_init RX5) U ∧ va_Nw (.methodLinkNest RX5 25 yX0_init RX5) U ∧ va_Nw (.methodLinkNest RX5 32 yX3_init RX5) U ∧ va_Nw (.methodLinkNest RX5 39 yX4_init RX5) U
theorem zN.warm {s U : State} (hW : s.WarmedH U.vm) (h : zN s) : zN U := by
  obtain ⟨h1, h2, h3, h4, h5, h6, h7, h8⟩ := h
  exact ⟨h1.warmM hW, h2.warmM hW, h3.warmM hW, h4.warmM hW, h5.warmM hW, h6.warmM hW, h7.warmM hW, h8.warmM hW⟩
theorem zN.same {u U : State} (hv : u.vm = U.vm) (h : zN u) : zN U := by
  obtain ⟨h1, h2, h3, h4, h5, h6, h7, h8⟩ := h
  exact ⟨h1.same rfl hv, h2.same rfl hv, h3.same rfl hv, h4.same rfl hv, h5.same rfl hv, h6.same rfl hv, h7.same rfl hv, h8.same rfl hv⟩
abbrev zT (cI cR : ClassId) : List (ClassId × FieldType) := [(cI, .int), (cR, .object RX1)]
/-- the heap holds the cells ws; the tables are as they are -/
def zG (D : va_G) (cI cR : ClassId) (ws : va_W) (s : State) (H : Heap) : Prop := va_P D vwCl ws H ∧ va_K D vwCl (zT cI cR) s ∧ zN s
def zW (D : va_G) (cI cR : ClassId) (ws : va_W) (U : State) : Prop := zG D cI cR ws U U.heap
def zX (D : va_G) (cI cR : ClassId) (ws : va_W) (sz : Nat) (U : State) : Prop := U.heap.size = sz ∧ zW D cI cR ws U ∧ va_D (fun _ => True) ws
/-- in a method that writes: the world, apart, in the method's own part A -/
def zV (D : va_G) (cI cR : ClassId) (A : Nat → Prop) (ws : va_W) (s : State) (H : Heap) (locs : List Loc) : Prop := zG D cI cR ws s H ∧ va_D A ws ∧ va_S A s.heap H locs ∧ ∀ q, s.heap.size ≤ q → A q
theorem zG.sub {D : va_G} {cI cR : ClassId} {ws ws' : va_W} {s : State} {H : Heap} (h : zG D cI cR ws s H) (is : List Nat) (hs : is.filterMap (fun i => ws[i]?) = ws') : zG D cI cR ws' s H := ⟨h.1.sub is hs, h.2⟩
theorem zW.of {D : va_G} {cI cR : ClassId} {ws : va_W} {s U : State} {H : Heap} (h : zG D cI cR ws s H) (hU : U.heap = H) (hW : s.WarmedH U.vm) : zW D cI cR ws U := ⟨by rw [hU]; exact h.1, va_K.moved hW.alike h.2.1, h.2.2.warm hW⟩
theorem zW.blind {D : va_G} {cI cR : ClassId} {ws : va_W} {av : List Value} : FrameBlind (va_Pc av (zW D cI cR ws)) := fun a U g mk q => by
  obtain ⟨q0, qP, qK, qN⟩ := q
  exact ⟨q0, qP, va_K.moved (u := U) (U := U.calling g mk a) (Vm.Alike.refl U.vm) qK, qN.same rfl⟩
theorem zX.blind {D : va_G} {cI cR : ClassId} {ws : va_W} {sz : Nat} {av : List Value} : FrameBlind (va_Pc av (zX D cI cR ws sz)) := fun a U g mk q => by
  obtain ⟨q0, q1, ⟨qP, qK, qN⟩, qD⟩ := q
  exact ⟨q0, q1, ⟨qP, va_K.moved (u := U) (U := U.calling g mk a) (Vm.Alike.refl U.vm) qK, qN.same rfl⟩, qD⟩
theorem zT.blind {av : List Value} : FrameBlind (va_Pc av (fun _ => True)) := fun a U g mk q => ⟨q.1, trivial⟩
section ZR
variable {p : Program} {l : Launch} {e : Env} {R : Room} {s : State} {m : MethodId} {args : Array Value} {below : List Frame} {meth : Method} {c : Code} {H : Heap} {locs : List Loc} {cells slots : Nat} {Q : State → Prop}
variable {cc : ByteArray} {nL : Nat} {Ts : List Cond} {own : String} {pc : Nat} {ls : Array Slot} {rest : List Value}
theorem zz_iadd (S : CallFix p m c cc nL s args Ts own) {x y v : Int32} (hdg : decode cc pc = .ok (.iadd, 1)) (hv : x + y = v) (k : W p l e R s m args below meth c H locs cells slots Q (F0 m (pc + 1) ls (.int v :: rest))) : W p l e R s m args below meth c H locs cells slots Q (F0 m pc ls (.int y :: .int x :: rest)) := by
  subst hv; exact lv_iadd S.1 S.2.1 hdg k
theorem zz_isub (S : CallFix p m c cc nL s args Ts own) {x y v : Int32} (hdg : decode cc pc = .ok (.isub, 1)) (hv : x - y = v) (k : W p l e R s m args below meth c H locs cells slots Q (F0 m (pc + 1) ls (.int v :: rest))) : W p l e R s m args below meth c H locs cells slots Q (F0 m pc ls (.int y :: .int x :: rest)) := by
  subst hv; exact lv_isub S.1 S.2.1 hdg k
theorem zz_imul (S : CallFix p m c cc nL s args Ts own) {x y v : Int32} (hdg : decode cc pc = .ok (.imul, 1)) (hv : x * y = v) (k : W p l e R s m args below meth c H locs cells slots Q (F0 m (pc + 1) ls (.int v :: rest))) : W p l e R s m args below meth c H locs cells slots Q (F0 m pc ls (.int y :: .int x :: rest)) := by
  subst hv; exact lv_imul S.1 S.2.1 hdg k
theorem zz_iand (S : CallFix p m c cc nL s args Ts own) {x y v : Int32} (hdg : decode cc pc = .ok (.iand, 1)) (hv : x &&& y = v) (k : W p l e R s m args below meth c H locs cells slots Q (F0 m (pc + 1) ls (.int v :: rest))) : W p l e R s m args below meth c H locs cells slots Q (F0 m pc ls (.int y :: .int x :: rest)) := by
  subst hv; exact lv_iand S.1 S.2.1 hdg k
theorem zz_ior (S : CallFix p m c cc nL s args Ts own) {x y v : Int32} (hdg : decode cc pc = .ok (.ior, 1)) (hv : x ||| y = v) (k : W p l e R s m args below meth c H locs cells slots Q (F0 m (pc + 1) ls (.int v :: rest))) : W p l e R s m args below meth c H locs cells slots Q (F0 m pc ls (.int y :: .int x :: rest)) := by
  subst hv; exact lv_ior S.1 S.2.1 hdg k
theorem zz_ixor (S : CallFix p m c cc nL s args Ts own) {x y v : Int32} (hdg : decode cc pc = .ok (.ixor, 1)) (hv : x ^^^ y = v) (k : W p l e R s m args below meth c H locs cells slots Q (F0 m (pc + 1) ls (.int v :: rest))) : W p l e R s m args below meth c H locs cells slots Q (F0 m pc ls (.int y :: .int x :: rest)) := by
  subst hv; exact lv_ixor S.1 S.2.1 hdg k
theorem zz_idiv (S : CallFix p m c cc nL s args Ts own) {x y v : Int32} (hdg : decode cc pc = .ok (.idiv, 1)) (hne : ¬ y = 0) (hv : x / y = v) (k : W p l e R s m args below meth c H locs cells slots Q (F0 m (pc + 1) ls (.int v :: rest))) : W p l e R s m args below meth c H locs cells slots Q (F0 m pc ls (.int y :: .int x :: rest)) := by
  subst hv; exact lv_idiv S.1 S.2.1 hdg hne k
theorem zz_irem (S : CallFix p m c cc nL s args Ts own) {x y v : Int32} (hdg : decode cc pc = .ok (.irem, 1)) (hne : ¬ y = 0) (hv : x - x / y * y = v) (k : W p l e R s m args below meth c H locs cells slots Q (F0 m (pc + 1) ls (.int v :: rest))) : W p l e R s m args below meth c H locs cells slots Q (F0 m pc ls (.int y :: .int x :: rest)) := by
  subst hv; exact lv_irem S.1 S.2.1 hdg hne k
theorem zz_ishl (S : CallFix p m c cc nL s args Ts own) {x y v : Int32} (hdg : decode cc pc = .ok (.ishl, 1)) (hv : x <<< (y &&& 31) = v) (k : W p l e R s m args below meth c H locs cells slots Q (F0 m (pc + 1) ls (.int v :: rest))) : W p l e R s m args below meth c H locs cells slots Q (F0 m pc ls (.int y :: .int x :: rest)) := by
  subst hv; exact lv_ishl S.1 S.2.1 hdg k
theorem zz_ishr (S : CallFix p m c cc nL s args Ts own) {x y v : Int32} (hdg : decode cc pc = .ok (.ishr, 1)) (hv : x >>> (y &&& 31) = v) (k : W p l e R s m args below meth c H locs cells slots Q (F0 m (pc + 1) ls (.int v :: rest))) : W p l e R s m args below meth c H locs cells slots Q (F0 m pc ls (.int y :: .int x :: rest)) := by
  subst hv; exact lv_ishr S.1 S.2.1 hdg k
theorem zz_ineg (S : CallFix p m c cc nL s args Ts own) {x : Int} (hdg : decode cc pc = .ok (.ineg, 1)) (k : W p l e R s m args below meth c H locs cells slots Q (F0 m (pc + 1) ls (.int (zI (-x)) :: rest))) : W p l e R s m args below meth c H locs cells slots Q (F0 m pc ls (.int (zI x) :: rest)) := by
  rw [← zI_neg] at k
  exact lv_ineg S.1 S.2.1 hdg k
theorem zz_cast {v v' : Int32} (hv : v' = v) (k : W p l e R s m args below meth c H locs cells slots Q (F0 m pc ls (.int v :: rest))) : W p l e R s m args below meth c H locs cells slots Q (F0 m pc ls (.int v' :: rest)) := by subst hv; exact k
-- constants and locals
theorem zz_iconst (S : CallFix p m c cc nL s args Ts own) {n : Int} {v : Int32} (hdg : decode cc pc = .ok (.iconst n, 1)) (hv : Int32.ofInt n = v) (k : W p l e R s m args below meth c H locs cells slots Q (F0 m (pc + 1) ls (.int v :: rest))) : W p l e R s m args below meth c H locs cells slots Q (F0 m pc ls rest) := lv_iconst S.1 S.2.1 hdg hv k
theorem zz_bipush (S : CallFix p m c cc nL s args Ts own) {n : Int} {v : Int32} (hdg : decode cc pc = .ok (.bipush n, 2)) (hv : (Int8.ofInt n).toInt32 = v) (k : W p l e R s m args below meth c H locs cells slots Q (F0 m (pc + 2) ls (.int v :: rest))) : W p l e R s m args below meth c H locs cells slots Q (F0 m pc ls rest) := lv_bipush S.1 S.2.1 hdg hv k
theorem zz_sipush (S : CallFix p m c cc nL s args Ts own) {n : Int} {v : Int32} (hdg : decode cc pc = .ok (.sipush n, 3)) (hv : (Int16.ofInt n).toInt32 = v) (k : W p l e R s m args below meth c H locs cells slots Q (F0 m (pc + 3) ls (.int v :: rest))) : W p l e R s m args below meth c H locs cells slots Q (F0 m pc ls rest) := lv_sipush S.1 S.2.1 hdg hv k
-- branches
theorem zz_icmp_eq (S : CallFix p m c cc nL s args Ts own) {x y : Int32} {P : Prop} {off : Int} {tgt : Nat} (hdg : decode cc pc = .ok (.if_icmp .eq off, 3)) (ht : (pc : Int) + off = (tgt : Int)) (hP : x = y ↔ P) (kt : P → W p l e R s m args below meth c H locs cells slots Q (F0 m tgt ls rest)) (kf : ¬ P → W p l e R s m args below meth c H locs cells slots Q (F0 m (pc + 3) ls rest)) : W p l e R s m args below meth c H locs cells slots Q (F0 m pc ls (.int y :: .int x :: rest)) := lv_icmp_eq S.1 S.2.1 hdg ht (fun h => kt (hP.mp h)) (fun h => kf (fun q => h (hP.mpr q)))
theorem zz_icmp_ne (S : CallFix p m c cc nL s args Ts own) {x y : Int32} {P : Prop} {off : Int} {tgt : Nat} (hdg : decode cc pc = .ok (.if_icmp .ne off, 3)) (ht : (pc : Int) + off = (tgt : Int)) (hP : x = y ↔ P) (kt : ¬ P → W p l e R s m args below meth c H locs cells slots Q (F0 m tgt ls rest)) (kf : P → W p l e R s m args below meth c H locs cells slots Q (F0 m (pc + 3) ls rest)) : W p l e R s m args below meth c H locs cells slots Q (F0 m pc ls (.int y :: .int x :: rest)) := lv_icmp_ne S.1 S.2.1 hdg ht (fun h => kt (fun q => h (hP.mpr q))) (fun h => kf (hP.mp h))
theorem zz_icmp_lt (S : CallFix p m c cc nL s args Ts own) {x y : Int32} {P : Prop} {off : Int} {tgt : Nat} (hdg : decode cc pc = .ok (.if_icmp .lt off, 3)) (ht : (pc : Int) + off = (tgt : Int)) (hP : x < y ↔ P) (kt : P → W p l e R s m args below meth c H locs cells slots Q (F0 m tgt ls rest)) (kf : ¬ P → W p l e R s m args below meth c H locs cells slots Q (F0 m (pc + 3) ls rest)) : W p l e R s m args below meth c H locs cells slots Q (F0 m pc ls (.int y :: .int x :: rest)) := lv_icmp_lt S.1 S.2.1 hdg ht (fun h => kt (hP.mp h)) (fun h => kf (fun q => h (hP.mpr q)))
theorem zz_icmp_ge (S : CallFix p m c cc nL s args Ts own) {x y : Int32} {P : Prop} {off : Int} {tgt : Nat} (hdg : decode cc pc = .ok (.if_icmp .ge off, 3)) (ht : (pc : Int) + off = (tgt : Int)) (hP : y ≤ x ↔ P) (kt : P → W p l e R s m args below meth c H locs cells slots Q (F0 m tgt ls rest)) (kf : ¬ P → W p l e R s m args below meth c H locs cells slots Q (F0 m (pc + 3) ls rest)) : W p l e R s m args below meth c H locs cells slots Q (F0 m pc ls (.int y :: .int x :: rest)) := lv_icmp_ge S.1 S.2.1 hdg ht (fun h => kt (hP.mp h)) (fun h => kf (fun q => h (hP.mpr q)))
theorem zz_icmp_gt (S : CallFix p m c cc nL s args Ts own) {x y : Int32} {P : Prop} {off : Int} {tgt : Nat} (hdg : decode cc pc = .ok (.if_icmp .gt off, 3)) (ht : (pc : Int) + off = (tgt : Int)) (hP : y < x ↔ P) (kt : P → W p l e R s m args below meth c H locs cells slots Q (F0 m tgt ls rest)) (kf : ¬ P → W p l e R s m args below meth c H locs cells slots Q (F0 m (pc + 3) ls rest)) : W p l e R s m args below meth c H locs cells slots Q (F0 m pc ls (.int y :: .int x :: rest)) := lv_icmp_gt S.1 S.2.1 hdg ht (fun h => kt (hP.mp h)) (fun h => kf (fun q => h (hP.mpr q)))
theorem zz_icmp_le (S : CallFix p m c cc nL s args Ts own) {x y : Int32} {P : Prop} {off : Int} {tgt : Nat} (hdg : decode cc pc = .ok (.if_icmp .le off, 3)) (ht : (pc : Int) + off = (tgt : Int)) (hP : x ≤ y ↔ P) (kt : P → W p l e R s m args below meth c H locs cells slots Q (F0 m tgt ls rest)) (kf : ¬ P → W p l e R s m args below meth c H locs cells slots Q (F0 m (pc + 3) ls rest)) : W p l e R s m args below meth c H locs cells slots Q (F0 m pc ls (.int y :: .int x :: rest)) := lv_icmp_le S.1 S.2.1 hdg ht (fun h => kt (hP.mp h)) (fun h => kf (fun q => h (hP.mpr q)))
theorem zz_if_eq (S : CallFix p m c cc nL s args Ts own) {x : Int32} {P : Prop} {off : Int} {tgt : Nat} (hdg : decode cc pc = .ok (.ifCond .eq off, 3)) (ht : (pc : Int) + off = (tgt : Int)) (hP : x = 0 ↔ P) (kt : P → W p l e R s m args below meth c H locs cells slots Q (F0 m tgt ls rest)) (kf : ¬ P → W p l e R s m args below meth c H locs cells slots Q (F0 m (pc + 3) ls rest)) : W p l e R s m args below meth c H locs cells slots Q (F0 m pc ls (.int x :: rest)) := lv_if_eq S.1 S.2.1 hdg ht (fun h => kt (hP.mp h)) (fun h => kf (fun q => h (hP.mpr q)))
theorem zz_if_ne (S : CallFix p m c cc nL s args Ts own) {x : Int32} {P : Prop} {off : Int} {tgt : Nat} (hdg : decode cc pc = .ok (.ifCond .ne off, 3)) (ht : (pc : Int) + off = (tgt : Int)) (hP : x = 0 ↔ P) (kt : ¬ P → W p l e R s m args below meth c H locs cells slots Q (F0 m tgt ls rest)) (kf : P → W p l e R s m args below meth c H locs cells slots Q (F0 m (pc + 3) ls rest)) : W p l e R s m args below meth c H locs cells slots Q (F0 m pc ls (.int x :: rest)) := lv_if_ne S.1 S.2.1 hdg ht (fun h => kt (fun q => h (hP.mpr q))) (fun h => kf (hP.mp h))
theorem zz_if_lt (S : CallFix p m c cc nL s args Ts own) {x : Int32} {P : Prop} {off : Int} {tgt : Nat} (hdg : decode cc pc = .ok (.ifCond .lt off, 3)) (ht : (pc : Int) + off = (tgt : Int)) (hP : x < 0 ↔ P) (kt : P → W p l e R s m args below meth c H locs cells slots Q (F0 m tgt ls rest)) (kf : ¬ P → W p l e R s m args below meth c H locs cells slots Q (F0 m (pc + 3) ls rest)) : W p l e R s m args below meth c H locs cells slots Q (F0 m pc ls (.int x :: rest)) := lv_if_lt S.1 S.2.1 hdg ht (fun h => kt (hP.mp h)) (fun h => kf (fun q => h (hP.mpr q)))
theorem zz_if_ge (S : CallFix p m c cc nL s args Ts own) {x : Int32} {P : Prop} {off : Int} {tgt : Nat} (hdg : decode cc pc = .ok (.ifCond .ge off, 3)) (ht : (pc : Int) + off = (tgt : Int)) (hP : 0 ≤ x ↔ P) (kt : P → W p l e R s m args below meth c H locs cells slots Q (F0 m tgt ls rest)) (kf : ¬ P → W p l e R s m args below meth c H locs cells slots Q (F0 m (pc + 3) ls rest)) : W p l e R s m args below meth c H locs cells slots Q (F0 m pc ls (.int x :: rest)) := lv_if_ge S.1 S.2.1 hdg ht (fun h => kt (hP.mp h)) (fun h => kf (fun q => h (hP.mpr q)))
theorem zz_if_gt (S : CallFix p m c cc nL s args Ts own) {x : Int32} {P : Prop} {off : Int} {tgt : Nat} (hdg : decode cc pc = .ok (.ifCond .gt off, 3)) (ht : (pc : Int) + off = (tgt : Int)) (hP : 0 < x ↔ P) (kt : P → W p l e R s m args below meth c H locs cells slots Q (F0 m tgt ls rest)) (kf : ¬ P → W p l e R s m args below meth c H locs cells slots Q (F0 m (pc + 3) ls rest)) : W p l e R s m args below meth c H locs cells slots Q (F0 m pc ls (.int x :: rest)) := lv_if_gt S.1 S.2.1 hdg ht (fun h => kt (hP.mp h)) (fun h => kf (fun q => h (hP.mpr q)))
theorem zz_if_le (S : CallFix p m c cc nL s args Ts own) {x : Int32} {P : Prop} {off : Int} {tgt : Nat} (hdg : decode cc pc = .ok (.ifCond .le off, 3)) (ht : (pc : Int) + off = (tgt : Int)) (hP : x ≤ 0 ↔ P) (kt : P → W p l e R s m args below meth c H locs cells slots Q (F0 m tgt ls rest)) (kf : ¬ P → W p l e R s m args below meth c H locs cells slots Q (F0 m (pc + 3) ls rest)) : W p l e R s m args below meth c H locs cells slots Q (F0 m pc ls (.int x :: rest)) := lv_if_le S.1 S.2.1 hdg ht (fun h => kt (hP.mp h)) (fun h => kf (fun q => h (hP.mpr q)))
-- fields and arrays, read
variable {D : va_G} {cI cR : ClassId} {ws : va_W} {A : Nat → Prop} {a : Nat}
theorem zz_get (S : CallFix p m c cc nL s args Ts own) (hG : zG D cI cR ws s H) {ref C : String} {T : u_T} {N ci index : Nat} (hin : ∀ w ∈ u_ws C T N, w ∈ Ts) (q0 : Nat) {fs : List Value} (he : ws[q0]? = some (a, .inr (ci, fs))) (hc : vwCl[ci]? = some (C, T, N)) (k : Nat) (hk : k < N) (hlink : Cond.fieldLink own index ref (T k).2.1 (T k).2.2.1 ∈ Ts) (href : (T k).1 = ref) {v : Value} (hv : fs[k]? = some v) (hdg : decode cc pc = .ok (.getfield index, 3))
    (kk : W p l e R s m args below meth c H locs cells slots Q (F0 m (pc + 3) ls (v :: rest))) : W p l e R s m args below meth c H locs cells slots Q (F0 m pc ls (.ref a :: rest)) := by
  obtain ⟨hx, hb, hml, hown, hts⟩ := S
  subst href
  exact va_get hx hb hts hin hown hG.2.1 hG.1 q0 he hc k hk (hts _ hlink) (fun _ h => h) hv hdg kk
theorem zz_iald (S : CallFix p m c cc nL s args Ts own) (hG : zG D cI cR ws s H) (q0 : Nat) {n k : Nat} {f : Nat → Nat} (ha : ws[q0]? = some (a, .inl (cI, n, .inl (fun j => nI (f j))))) (hin : k < n ∧ n < 2147483648) (hdg : decode cc pc = .ok (.iaload, 1))
    (kk : W p l e R s m args below meth c H locs cells slots Q (F0 m (pc + 1) ls (.int (nI (f k)) :: rest))) : W p l e R s m args below meth c H locs cells slots Q (F0 m pc ls (.int (nI k) :: .ref a :: rest)) := by
  obtain ⟨hx, hb, -⟩ := S
  refine va_iald hx hb hG.2.1 hG.1 q0 0 ha rfl (n_in hin.1 hin.2) hdg ?_
  show W p l e R s m args below meth c H locs cells slots Q (F0 m (pc + 1) ls (.int (nI (f (nI k).toNatClampNeg)) :: rest))
  rw [n_toNat (by omega)]
  exact kk
theorem zz_alen (S : CallFix p m c cc nL s args Ts own) (hG : zG D cI cR ws s H) (q0 : Nat) {n : Nat} {f : Nat → Int32} (ha : ws[q0]? = some (a, .inl (cI, n, .inl f))) (hdg : decode cc pc = .ok (.arraylength, 1))
    (kk : W p l e R s m args below meth c H locs cells slots Q (F0 m (pc + 1) ls (.int (nI n) :: rest))) : W p l e R s m args below meth c H locs cells slots Q (F0 m pc ls (.ref a :: rest)) := by
  obtain ⟨hx, hb, -⟩ := S
  exact va_alen hx hb hG.2.1 hG.1 q0 0 ha rfl rfl hdg kk
-- Math
theorem zz_max (S : CallFix p m c cc nL s args Ts own) {index : Nat} (h1 : Cond.methodLink own index Lib.Math.max.name ∈ Ts) (h2 : Cond.static Lib.Math.max.name ∈ Ts) (h3 : Cond.initialized "java/lang/Math" ∈ Ts) (h4 : Cond.code Lib.Math.max.name Lib.Math.max.code 2 (some .int) ∈ Ts) (hR : 1 ≤ R.frames ∧ (rest.map fun v => v.category).sum + 13 ≤ R.locals) (hz : cells ≤ R.cells ∧ slots ≤ R.slots) (hls : ls.size = nL) {x y v : Int32} (hdg : decode cc pc = .ok (.invokestatic index, 3)) (hv : (if x < y then y else x) = v)
    (kk : W p l e R s m args below meth c H locs cells slots Q (F0 m (pc + 3) ls (.int v :: rest))) : W p l e R s m args below meth c H locs cells slots Q (F0 m pc ls (.int y :: .int x :: rest)) := by
  obtain ⟨hx, hb, hml, hown, hts⟩ := S
  subst hv
  exact va_mmax hx hb (hml.trans hls.symm) hown (hts _ h1) (hts _ h2) (hts _ h3) (hts _ h4) hR.1 hR.2 hz.1 hz.2 hdg kk
theorem zz_min (S : CallFix p m c cc nL s args Ts own) {index : Nat} (h1 : Cond.methodLink own index Lib.Math.min.name ∈ Ts) (h2 : Cond.static Lib.Math.min.name ∈ Ts) (h3 : Cond.initialized "java/lang/Math" ∈ Ts) (h4 : Cond.code Lib.Math.min.name Lib.Math.min.code 2 (some .int) ∈ Ts) (hR : 1 ≤ R.frames ∧ (rest.map fun v => v.category).sum + 13 ≤ R.locals) (hz : cells ≤ R.cells ∧ slots ≤ R.slots) (hls : ls.size = nL) {x y v : Int32} (hdg : decode cc pc = .ok (.invokestatic index, 3)) (hv : (if y < x then y else x) = v)
    (kk : W p l e R s m args below meth c H locs cells slots Q (F0 m (pc + 3) ls (.int v :: rest))) : W p l e R s m args below meth c H locs cells slots Q (F0 m pc ls (.int y :: .int x :: rest)) := by
  obtain ⟨hx, hb, hml, hown, hts⟩ := S
  subst hv
  exact va_mmin hx hb (hml.trans hls.symm) hown (hts _ h1) (hts _ h2) (hts _ h3) (hts _ h4) hR.1 hR.2 hz.1 hz.2 hdg kk
theorem zz_abs (S : CallFix p m c cc nL s args Ts own) {index : Nat} (h1 : Cond.methodLink own index Lib.Math.abs.name ∈ Ts) (h2 : Cond.static Lib.Math.abs.name ∈ Ts) (h3 : Cond.initialized "java/lang/Math" ∈ Ts) (h4 : Cond.code Lib.Math.abs.name Lib.Math.abs.code 1 (some .int) ∈ Ts) (hR : 1 ≤ R.frames ∧ (rest.map fun v => v.category).sum + 13 ≤ R.locals) (hz : cells ≤ R.cells ∧ slots ≤ R.slots) (hls : ls.size = nL) {x v : Int32} (hdg : decode cc pc = .ok (.invokestatic index, 3)) (hv : (if 0 ≤ x then x else 0 - x) = v)
    (kk : W p l e R s m args below meth c H locs cells slots Q (F0 m (pc + 3) ls (.int v :: rest))) : W p l e R s m args below meth c H locs cells slots Q (F0 m pc ls (.int x :: rest)) := by
  obtain ⟨hx, hb, hml, hown, hts⟩ := S
  subst hv
  exact va_mabs hx hb (hml.trans hls.symm) hown (hts _ h1) (hts _ h2) (hts _ h3) (hts _ h4) hR.1 hR.2 hz.1 hz.2 hdg kk
-- calls of methods that only read
theorem zz_callV (S : CallFix p m c cc nL s args Ts own) {y : MethodName} {bytes : ByteArray} {maxL : Nat} {ret : Option FieldType} {wy wy' : List Cond} {rm : Room} {b : Nat} {As : List Value} {v : Int32} {wc : va_W} {C : String} {index : Nat} (hM : Met l y wy rm (va_Pc (.ref b :: As) (zW D cI cR wc)) (vp_Si (fun r => r = v)) 0 0 (fun _ => False)) (hT : GoodIn Ts (wsV own index C y wy)) (n : Nat) (hw : wy = Cond.code y bytes maxL ret :: wy') (hd : y.cls = C ∧ y.cls ≠ "java/lang/invoke/MethodHandle" ∧ y.cls ≠ "java/lang/invoke/VarHandle" ∧ (parseMethodDescriptor y.desc).map (fun d => d.parameters.length) = some n) (hR : (rm.cells = 0 ∧ rm.slots = 0) ∧ rm.frames + 1 ≤ R.frames ∧ 8 + (maxL + 11) + rm.locals ≤ R.locals)
    (hG : zG D cI cR ws s H) (is : List Nat) (hsub : is.filterMap (fun i => ws[i]?) = wc) (q0 : Nat) {ci : Nat} {fs : List Value} {r : vw_C} (hc : vwCl[ci]? = some r) (hC : r.1 = C) (he : ws[q0]? = some (b, .inr (ci, fs))) (hn : As.length = n) {stk : List Value} (hstk : stk = As.reverse ++ .ref b :: rest) (hcat : (rest.map fun v => v.category).sum ≤ 8) (hls : ls.size = nL) (hz : cells ≤ R.cells ∧ slots ≤ R.slots) (hdg : decode cc pc = .ok (.invokevirtual index, 3))
    (kk : W p l e R s m args below meth c H locs cells slots Q (F0 m (pc + 3) ls (.int v :: rest))) : W p l e R s m args below meth c H locs cells slots Q (F0 m pc ls stk) := by
  subst hC
  have hw0 := hG.sub is hsub
  refine vp_callSi (W.runV (C := r.1) (b := b) (As := As) (rest := rest) S hM (cwV n S.2.2.2.2 hT hw hR.1.1 hR.1.2 hd hR.2) ⟨zW.blind, va_recv hG.2.1 hG.1 hc he, fun U hU hW => ⟨rfl, zW.of hw0 hU hW⟩⟩ rfl hn hls hstk (lv_room hcat) hdg ⟨hz.1, hz.2⟩) (fun r2 hr2 => ?_)
  subst hr2
  exact kk
theorem zz_callS (S : CallFix p m c cc nL s args Ts own) {y : MethodName} {bytes : ByteArray} {maxL : Nat} {ret : Option FieldType} {wy wy' : List Cond} {rm : Room} {As : List Value} {v : Int32} {index : Nat} (hM : Met l y wy rm (va_Pc As (fun _ => True)) (vp_Si (fun r => r = v)) 0 0 (fun _ => False)) (hT : GoodIn Ts (va_wsS own index y wy)) (n : Nat) (hw : wy = Cond.code y bytes maxL ret :: wy') (hd : y.cls ≠ "java/lang/invoke/MethodHandle" ∧ y.cls ≠ "java/lang/invoke/VarHandle" ∧ (parseMethodDescriptor y.desc).map (fun d => d.parameters.length) = some n) (hR : (rm.cells = 0 ∧ rm.slots = 0) ∧ rm.frames + 1 ≤ R.frames ∧ 8 + (maxL + 11) + rm.locals ≤ R.locals)
    (hn : As.length = n) {stk : List Value} (hstk : stk = As.reverse ++ rest) (hcat : (rest.map fun v => v.category).sum ≤ 8) (hls : ls.size = nL) (hz : cells ≤ R.cells ∧ slots ≤ R.slots) (hdg : decode cc pc = .ok (.invokestatic index, 3))
    (kk : W p l e R s m args below meth c H locs cells slots Q (F0 m (pc + 3) ls (.int v :: rest))) : W p l e R s m args below meth c H locs cells slots Q (F0 m pc ls stk) := by
  refine vp_callSi (W.runS (As := As) (rest := rest) S hM (va_cwS n S.2.2.2.2 hT hw hR.1.1 hR.1.2 hd hR.2) ⟨zT.blind, fun U hU hW => ⟨rfl, trivial⟩⟩ rfl hn hls hstk (lv_room hcat) hdg ⟨hz.1, hz.2⟩) (fun r2 hr2 => ?_)
  subst hr2
  exact kk
/-- a private static method of a nest mate -/
theorem zz_callSN (S : CallFix p m c cc nL s args Ts own) {y : MethodName} {bytes : ByteArray} {maxL : Nat} {ret : Option FieldType} {wy wy' : List Cond} {rm : Room} {As : List Value} {v : Int32} {index : Nat} {host : String} (hM : Met l y wy rm (va_Pc As (fun _ => True)) (vp_Si (fun r => r = v)) 0 0 (fun _ => False)) (hT : GoodIn Ts wy) (n : Nat) (hw : wy = Cond.code y bytes maxL ret :: wy') (hd : y.cls ≠ "java/lang/invoke/MethodHandle" ∧ y.cls ≠ "java/lang/invoke/VarHandle" ∧ (parseMethodDescriptor y.desc).map (fun d => d.parameters.length) = some n) (hR : (rm.cells = 0 ∧ rm.slots = 0) ∧ rm.frames + 1 ≤ R.frames ∧ 8 + (maxL + 11) + rm.locals ≤ R.locals)
    (hl : va_Nw (.methodLinkNest own index y host) s) (hi : Cond.initialized y.cls ∈ Ts) (hst : Cond.static y ∈ Ts) (hn : As.length = n) {stk : List Value} (hstk : stk = As.reverse ++ rest) (hcat : (rest.map fun v => v.category).sum ≤ 8) (hls : ls.size = nL) (hz : cells ≤ R.cells ∧ slots ≤ R.slots) (hdg : decode cc pc = .ok (.invokestatic index, 3))
    (kk : W p l e R s m args below meth c H locs cells slots Q (F0 m (pc + 3) ls (.int v :: rest))) : W p l e R s m args below meth c H locs cells slots Q (F0 m pc ls stk) := by
  refine vp_callSi (va_Run.run (va_runSN (As := As) (rest := rest) S hM ⟨va_cnB n S.2.2.2.2 hT hw hR.1.1 hR.1.2 hl (S.2.2.2.2 _ hi) hd hR.2, S.2.2.2.2 _ hst, trivial⟩ ⟨zT.blind, fun U hU hW => ⟨rfl, trivial⟩⟩ rfl hn hls hstk (lv_room hcat) hdg ⟨hz.1, hz.2⟩)) (fun r2 hr2 => ?_)
  subst hr2
  exact kk
-- the ends of methods that only read
theorem zz_iretS (S : CallFix p m c cc nL s args Ts own) (hr : meth.sig.returnType = some .int) (hlocks : meth.locks = false) {post : Int32 → Prop} {v : Int32} (hp : post v) (hdg : decode cc pc = .ok (.ireturn, 1)) : W p l e R s m args below meth c s.heap [] cells slots (MQ below (vp_Si post) args s cells slots (fun _ => False)) (F0 m pc ls [.int v]) :=
  W.iret S.1 S.2.1 hr (fun t ht _ => ⟨v, rfl, hp, ht⟩) (fun _ h => by cases h) hdg hlocks
theorem zz_bretS (S : CallFix p m c cc nL s args Ts own) (hr : meth.sig.returnType = some .boolean) (hlocks : meth.locks = false) {post : Int32 → Prop} {v : Int32} (hn : narrow .boolean (.int v) = .int v) (hp : post v) (hdg : decode cc pc = .ok (.ireturn, 1)) : W p l e R s m args below meth c s.heap [] cells slots (MQ below (vp_Si post) args s cells slots (fun _ => False)) (F0 m pc ls [.int v]) :=
  W.zret S.1 S.2.1 hr hn (fun t ht _ => ⟨v, rfl, hp, ht⟩) (fun _ h => by cases h) hdg hlocks
end ZR
end
section
theorem dX0_init_0 : decode cX0_init 0 = .ok (.aload_n 0, 1) := by decide +kernel
theorem dX0_init_1 : decode cX0_init 1 = .ok (.invokespecial 3, 3) := by decide +kernel
theorem dX0_init_4 : decode cX0_init 4 = .ok (.aload_n 0, 1) := by decide +kernel
theorem dX0_init_5 : decode cX0_init 5 = .ok (.sipush 272, 3) := by decide +kernel
theorem dX0_init_8 : decode cX0_init 8 = .ok (.newarray .int, 2) := by decide +kernel
theorem dX0_init_10 : decode cX0_init 10 = .ok (.putfield 9, 3) := by decide +kernel
theorem dX0_init_13 : decode cX0_init 13 = .ok (.aload_n 0, 1) := by decide +kernel
theorem dX0_init_14 : decode cX0_init 14 = .ok (.sipush 4096, 3) := by decide +kernel
theorem dX0_init_17 : decode cX0_init 17 = .ok (.newarray .int, 2) := by decide +kernel
theorem dX0_init_19 : decode cX0_init 19 = .ok (.putfield 15, 3) := by decide +kernel
theorem dX0_init_22 : decode cX0_init 22 = .ok (.aload_n 0, 1) := by decide +kernel
theorem dX0_init_23 : decode cX0_init 23 = .ok (.bipush 8, 2) := by decide +kernel
theorem dX0_init_25 : decode cX0_init 25 = .ok (.newarray .int, 2) := by decide +kernel
theorem dX0_init_27 : decode cX0_init 27 = .ok (.putfield 18, 3) := by decide +kernel
theorem dX0_init_30 : decode cX0_init 30 = .ok (.return_, 1) := by decide +kernel
theorem dX0_forget_0 : decode cX0_forget 0 = .ok (.aload_n 0, 1) := by decide +kernel
theorem dX0_forget_1 : decode cX0_forget 1 = .ok (.iconst 0, 1) := by decide +kernel
theorem dX0_forget_2 : decode cX0_forget 2 = .ok (.putfield 21, 3) := by decide +kernel
theorem dX0_forget_5 : decode cX0_forget 5 = .ok (.return_, 1) := by decide +kernel
theorem dX0_total_0 : decode cX0_total 0 = .ok (.aload_n 0, 1) := by decide +kernel
theorem dX0_total_1 : decode cX0_total 1 = .ok (.getfield 25, 3) := by decide +kernel
theorem dX0_total_4 : decode cX0_total 4 = .ok (.ireturn, 1) := by decide +kernel
theorem dX0_codeAt_0 : decode cX0_codeAt 0 = .ok (.iload_n 1, 1) := by decide +kernel
theorem dX0_codeAt_1 : decode cX0_codeAt 1 = .ok (.iconst 0, 1) := by decide +kernel
theorem dX0_codeAt_2 : decode cX0_codeAt 2 = .ok (.bipush 7, 2) := by decide +kernel
theorem dX0_codeAt_4 : decode cX0_codeAt 4 = .ok (.invokestatic 29, 3) := by decide +kernel
theorem dX0_codeAt_7 : decode cX0_codeAt 7 = .ok (.ifCond .eq 12, 3) := by decide +kernel
theorem dX0_codeAt_10 : decode cX0_codeAt 10 = .ok (.aload_n 0, 1) := by decide +kernel
theorem dX0_codeAt_11 : decode cX0_codeAt 11 = .ok (.getfield 18, 3) := by decide +kernel
theorem dX0_codeAt_14 : decode cX0_codeAt 14 = .ok (.iload_n 1, 1) := by decide +kernel
theorem dX0_codeAt_15 : decode cX0_codeAt 15 = .ok (.iaload, 1) := by decide +kernel
theorem dX0_codeAt_16 : decode cX0_codeAt 16 = .ok (.goto 4, 3) := by decide +kernel
theorem dX0_codeAt_19 : decode cX0_codeAt 19 = .ok (.iconst (-1), 1) := by decide +kernel
theorem dX0_codeAt_20 : decode cX0_codeAt 20 = .ok (.ireturn, 1) := by decide +kernel
theorem dX0_find_0 : decode cX0_find 0 = .ok (.aload_n 0, 1) := by decide +kernel
theorem dX0_find_1 : decode cX0_find 1 = .ok (.getfield 21, 3) := by decide +kernel
theorem dX0_find_4 : decode cX0_find 4 = .ok (.ifCond .eq 4, 3) := by decide +kernel
theorem dX0_find_7 : decode cX0_find 7 = .ok (.return_, 1) := by decide +kernel
theorem dX0_find_8 : decode cX0_find 8 = .ok (.aload_n 1, 1) := by decide +kernel
theorem dX0_find_9 : decode cX0_find 9 = .ok (.invokevirtual 33, 3) := by decide +kernel
theorem dX0_find_12 : decode cX0_find 12 = .ok (.bipush 8, 2) := by decide +kernel
theorem dX0_find_14 : decode cX0_find 14 = .ok (.invokestatic 39, 3) := by decide +kernel
theorem dX0_find_17 : decode cX0_find 17 = .ok (.istore_n 3, 1) := by decide +kernel
theorem dX0_find_18 : decode cX0_find 18 = .ok (.aload_n 0, 1) := by decide +kernel
theorem dX0_find_19 : decode cX0_find 19 = .ok (.iconst 2, 1) := by decide +kernel
theorem dX0_find_20 : decode cX0_find 20 = .ok (.iload_n 3, 1) := by decide +kernel
theorem dX0_find_21 : decode cX0_find 21 = .ok (.imul, 1) := by decide +kernel
theorem dX0_find_22 : decode cX0_find 22 = .ok (.putfield 45, 3) := by decide +kernel
theorem dX0_find_25 : decode cX0_find 25 = .ok (.aload_n 0, 1) := by decide +kernel
theorem dX0_find_26 : decode cX0_find 26 = .ok (.aload_n 1, 1) := by decide +kernel
theorem dX0_find_27 : decode cX0_find 27 = .ok (.iload_n 2, 1) := by decide +kernel
theorem dX0_find_28 : decode cX0_find 28 = .ok (.invokevirtual 48, 3) := by decide +kernel
theorem dX0_find_31 : decode cX0_find 31 = .ok (.aload_n 0, 1) := by decide +kernel
theorem dX0_find_32 : decode cX0_find 32 = .ok (.iconst 1, 1) := by decide +kernel
theorem dX0_find_33 : decode cX0_find 33 = .ok (.iload_n 3, 1) := by decide +kernel
theorem dX0_find_34 : decode cX0_find 34 = .ok (.ishl, 1) := by decide +kernel
theorem dX0_find_35 : decode cX0_find 35 = .ok (.iconst 1, 1) := by decide +kernel
theorem dX0_find_36 : decode cX0_find 36 = .ok (.isub, 1) := by decide +kernel
theorem dX0_find_37 : decode cX0_find 37 = .ok (.invokevirtual 52, 3) := by decide +kernel
theorem dX0_find_40 : decode cX0_find 40 = .ok (.aload_n 0, 1) := by decide +kernel
theorem dX0_find_41 : decode cX0_find 41 = .ok (.iload_n 3, 1) := by decide +kernel
theorem dX0_find_42 : decode cX0_find 42 = .ok (.invokevirtual 56, 3) := by decide +kernel
theorem dX0_find_45 : decode cX0_find 45 = .ok (.aload_n 0, 1) := by decide +kernel
theorem dX0_find_46 : decode cX0_find 46 = .ok (.iconst 1, 1) := by decide +kernel
theorem dX0_find_47 : decode cX0_find 47 = .ok (.putfield 21, 3) := by decide +kernel
theorem dX0_find_50 : decode cX0_find 50 = .ok (.return_, 1) := by decide +kernel
theorem dX0_fillSteps_0 : decode cX0_fillSteps 0 = .ok (.iconst (-1), 1) := by decide +kernel
theorem dX0_fillSteps_1 : decode cX0_fillSteps 1 = .ok (.istore_n 3, 1) := by decide +kernel
theorem dX0_fillSteps_2 : decode cX0_fillSteps 2 = .ok (.iload_n 3, 1) := by decide +kernel
theorem dX0_fillSteps_3 : decode cX0_fillSteps 3 = .ok (.aload_n 0, 1) := by decide +kernel
theorem dX0_fillSteps_4 : decode cX0_fillSteps 4 = .ok (.getfield 45, 3) := by decide +kernel
theorem dX0_fillSteps_7 : decode cX0_fillSteps 7 = .ok (.if_icmp .ge 49, 3) := by decide +kernel
theorem dX0_fillSteps_10 : decode cX0_fillSteps 10 = .ok (.iconst 0, 1) := by decide +kernel
theorem dX0_fillSteps_11 : decode cX0_fillSteps 11 = .ok (.istore 4, 2) := by decide +kernel
theorem dX0_fillSteps_13 : decode cX0_fillSteps 13 = .ok (.iload 4, 2) := by decide +kernel
theorem dX0_fillSteps_15 : decode cX0_fillSteps 15 = .ok (.aload_n 0, 1) := by decide +kernel
theorem dX0_fillSteps_16 : decode cX0_fillSteps 16 = .ok (.getfield 45, 3) := by decide +kernel
theorem dX0_fillSteps_19 : decode cX0_fillSteps 19 = .ok (.if_icmp .ge 31, 3) := by decide +kernel
theorem dX0_fillSteps_22 : decode cX0_fillSteps 22 = .ok (.aload_n 0, 1) := by decide +kernel
theorem dX0_fillSteps_23 : decode cX0_fillSteps 23 = .ok (.getfield 9, 3) := by decide +kernel
theorem dX0_fillSteps_26 : decode cX0_fillSteps 26 = .ok (.iload_n 3, 1) := by decide +kernel
theorem dX0_fillSteps_27 : decode cX0_fillSteps 27 = .ok (.iconst 1, 1) := by decide +kernel
theorem dX0_fillSteps_28 : decode cX0_fillSteps 28 = .ok (.iadd, 1) := by decide +kernel
theorem dX0_fillSteps_29 : decode cX0_fillSteps 29 = .ok (.bipush 16, 2) := by decide +kernel
theorem dX0_fillSteps_31 : decode cX0_fillSteps 31 = .ok (.imul, 1) := by decide +kernel
theorem dX0_fillSteps_32 : decode cX0_fillSteps 32 = .ok (.iload 4, 2) := by decide +kernel
theorem dX0_fillSteps_34 : decode cX0_fillSteps 34 = .ok (.iadd, 1) := by decide +kernel
theorem dX0_fillSteps_35 : decode cX0_fillSteps 35 = .ok (.aload_n 1, 1) := by decide +kernel
theorem dX0_fillSteps_36 : decode cX0_fillSteps 36 = .ok (.iload_n 3, 1) := by decide +kernel
theorem dX0_fillSteps_37 : decode cX0_fillSteps 37 = .ok (.iload 4, 2) := by decide +kernel
theorem dX0_fillSteps_39 : decode cX0_fillSteps 39 = .ok (.iload_n 2, 1) := by decide +kernel
theorem dX0_fillSteps_40 : decode cX0_fillSteps 40 = .ok (.invokevirtual 59, 3) := by decide +kernel
theorem dX0_fillSteps_43 : decode cX0_fillSteps 43 = .ok (.iastore, 1) := by decide +kernel
theorem dX0_fillSteps_44 : decode cX0_fillSteps 44 = .ok (.iinc 4 1, 3) := by decide +kernel
theorem dX0_fillSteps_47 : decode cX0_fillSteps 47 = .ok (.goto (-34), 3) := by decide +kernel
theorem dX0_fillSteps_50 : decode cX0_fillSteps 50 = .ok (.iinc 3 1, 3) := by decide +kernel
theorem dX0_fillSteps_53 : decode cX0_fillSteps 53 = .ok (.goto (-51), 3) := by decide +kernel
theorem dX0_fillSteps_56 : decode cX0_fillSteps 56 = .ok (.return_, 1) := by decide +kernel
theorem dX0_fillRests_0 : decode cX0_fillRests 0 = .ok (.iconst 0, 1) := by decide +kernel
theorem dX0_fillRests_1 : decode cX0_fillRests 1 = .ok (.istore_n 2, 1) := by decide +kernel
theorem dX0_fillRests_2 : decode cX0_fillRests 2 = .ok (.iload_n 2, 1) := by decide +kernel
theorem dX0_fillRests_3 : decode cX0_fillRests 3 = .ok (.iload_n 1, 1) := by decide +kernel
theorem dX0_fillRests_4 : decode cX0_fillRests 4 = .ok (.if_icmp .ge 74, 3) := by decide +kernel
theorem dX0_fillRests_7 : decode cX0_fillRests 7 = .ok (.iconst 0, 1) := by decide +kernel
theorem dX0_fillRests_8 : decode cX0_fillRests 8 = .ok (.istore_n 3, 1) := by decide +kernel
theorem dX0_fillRests_9 : decode cX0_fillRests 9 = .ok (.iload_n 3, 1) := by decide +kernel
theorem dX0_fillRests_10 : decode cX0_fillRests 10 = .ok (.aload_n 0, 1) := by decide +kernel
theorem dX0_fillRests_11 : decode cX0_fillRests 11 = .ok (.getfield 45, 3) := by decide +kernel
theorem dX0_fillRests_14 : decode cX0_fillRests 14 = .ok (.if_icmp .ge 58, 3) := by decide +kernel
theorem dX0_fillRests_17 : decode cX0_fillRests 17 = .ok (.iload_n 2, 1) := by decide +kernel
theorem dX0_fillRests_18 : decode cX0_fillRests 18 = .ok (.iload_n 3, 1) := by decide +kernel
theorem dX0_fillRests_19 : decode cX0_fillRests 19 = .ok (.invokestatic 63, 3) := by decide +kernel
theorem dX0_fillRests_22 : decode cX0_fillRests 22 = .ok (.ifCond .ne 44, 3) := by decide +kernel
theorem dX0_fillRests_25 : decode cX0_fillRests 25 = .ok (.aload_n 0, 1) := by decide +kernel
theorem dX0_fillRests_26 : decode cX0_fillRests 26 = .ok (.iload_n 2, 1) := by decide +kernel
theorem dX0_fillRests_27 : decode cX0_fillRests 27 = .ok (.iload_n 3, 1) := by decide +kernel
theorem dX0_fillRests_28 : decode cX0_fillRests 28 = .ok (.invokevirtual 67, 3) := by decide +kernel
theorem dX0_fillRests_31 : decode cX0_fillRests 31 = .ok (.istore 4, 2) := by decide +kernel
theorem dX0_fillRests_33 : decode cX0_fillRests 33 = .ok (.iload 4, 2) := by decide +kernel
theorem dX0_fillRests_35 : decode cX0_fillRests 35 = .ok (.iconst (-1), 1) := by decide +kernel
theorem dX0_fillRests_36 : decode cX0_fillRests 36 = .ok (.if_icmp .ne 7, 3) := by decide +kernel
theorem dX0_fillRests_39 : decode cX0_fillRests 39 = .ok (.iconst 0, 1) := by decide +kernel
theorem dX0_fillRests_40 : decode cX0_fillRests 40 = .ok (.goto 11, 3) := by decide +kernel
theorem dX0_fillRests_43 : decode cX0_fillRests 43 = .ok (.aload_n 0, 1) := by decide +kernel
theorem dX0_fillRests_44 : decode cX0_fillRests 44 = .ok (.iload_n 2, 1) := by decide +kernel
theorem dX0_fillRests_45 : decode cX0_fillRests 45 = .ok (.iload_n 3, 1) := by decide +kernel
theorem dX0_fillRests_46 : decode cX0_fillRests 46 = .ok (.iload 4, 2) := by decide +kernel
theorem dX0_fillRests_48 : decode cX0_fillRests 48 = .ok (.invokevirtual 70, 3) := by decide +kernel
theorem dX0_fillRests_51 : decode cX0_fillRests 51 = .ok (.istore 5, 2) := by decide +kernel
theorem dX0_fillRests_53 : decode cX0_fillRests 53 = .ok (.aload_n 0, 1) := by decide +kernel
theorem dX0_fillRests_54 : decode cX0_fillRests 54 = .ok (.getfield 15, 3) := by decide +kernel
theorem dX0_fillRests_57 : decode cX0_fillRests 57 = .ok (.iload_n 2, 1) := by decide +kernel
theorem dX0_fillRests_58 : decode cX0_fillRests 58 = .ok (.bipush 16, 2) := by decide +kernel
theorem dX0_fillRests_60 : decode cX0_fillRests 60 = .ok (.imul, 1) := by decide +kernel
theorem dX0_fillRests_61 : decode cX0_fillRests 61 = .ok (.iload_n 3, 1) := by decide +kernel
theorem dX0_fillRests_62 : decode cX0_fillRests 62 = .ok (.iadd, 1) := by decide +kernel
theorem dX0_fillRests_63 : decode cX0_fillRests 63 = .ok (.iload 5, 2) := by decide +kernel
theorem dX0_fillRests_65 : decode cX0_fillRests 65 = .ok (.iastore, 1) := by decide +kernel
theorem dX0_fillRests_66 : decode cX0_fillRests 66 = .ok (.iinc 3 1, 3) := by decide +kernel
theorem dX0_fillRests_69 : decode cX0_fillRests 69 = .ok (.goto (-60), 3) := by decide +kernel
theorem dX0_fillRests_72 : decode cX0_fillRests 72 = .ok (.iinc 2 1, 3) := by decide +kernel
theorem dX0_fillRests_75 : decode cX0_fillRests 75 = .ok (.goto (-73), 3) := by decide +kernel
theorem dX0_fillRests_78 : decode cX0_fillRests 78 = .ok (.return_, 1) := by decide +kernel
theorem dX0_follow_0 : decode cX0_follow 0 = .ok (.iconst 1, 1) := by decide +kernel
theorem dX0_follow_1 : decode cX0_follow 1 = .ok (.iload_n 1, 1) := by decide +kernel
theorem dX0_follow_2 : decode cX0_follow 2 = .ok (.ishl, 1) := by decide +kernel
theorem dX0_follow_3 : decode cX0_follow 3 = .ok (.iconst 1, 1) := by decide +kernel
theorem dX0_follow_4 : decode cX0_follow 4 = .ok (.isub, 1) := by decide +kernel
theorem dX0_follow_5 : decode cX0_follow 5 = .ok (.istore_n 2, 1) := by decide +kernel
theorem dX0_follow_6 : decode cX0_follow 6 = .ok (.iconst (-1), 1) := by decide +kernel
theorem dX0_follow_7 : decode cX0_follow 7 = .ok (.istore_n 3, 1) := by decide +kernel
theorem dX0_follow_8 : decode cX0_follow 8 = .ok (.aload_n 0, 1) := by decide +kernel
theorem dX0_follow_9 : decode cX0_follow 9 = .ok (.iconst 0, 1) := by decide +kernel
theorem dX0_follow_10 : decode cX0_follow 10 = .ok (.putfield 25, 3) := by decide +kernel
theorem dX0_follow_13 : decode cX0_follow 13 = .ok (.iconst 0, 1) := by decide +kernel
theorem dX0_follow_14 : decode cX0_follow 14 = .ok (.istore 4, 2) := by decide +kernel
theorem dX0_follow_16 : decode cX0_follow 16 = .ok (.iload 4, 2) := by decide +kernel
theorem dX0_follow_18 : decode cX0_follow 18 = .ok (.iload_n 1, 1) := by decide +kernel
theorem dX0_follow_19 : decode cX0_follow 19 = .ok (.if_icmp .ge 52, 3) := by decide +kernel
theorem dX0_follow_22 : decode cX0_follow 22 = .ok (.aload_n 0, 1) := by decide +kernel
theorem dX0_follow_23 : decode cX0_follow 23 = .ok (.iload_n 2, 1) := by decide +kernel
theorem dX0_follow_24 : decode cX0_follow 24 = .ok (.iload_n 3, 1) := by decide +kernel
theorem dX0_follow_25 : decode cX0_follow 25 = .ok (.invokevirtual 67, 3) := by decide +kernel
theorem dX0_follow_28 : decode cX0_follow 28 = .ok (.istore 5, 2) := by decide +kernel
theorem dX0_follow_30 : decode cX0_follow 30 = .ok (.aload_n 0, 1) := by decide +kernel
theorem dX0_follow_31 : decode cX0_follow 31 = .ok (.dup, 1) := by decide +kernel
theorem dX0_follow_32 : decode cX0_follow 32 = .ok (.getfield 25, 3) := by decide +kernel
theorem dX0_follow_35 : decode cX0_follow 35 = .ok (.aload_n 0, 1) := by decide +kernel
theorem dX0_follow_36 : decode cX0_follow 36 = .ok (.iload_n 3, 1) := by decide +kernel
theorem dX0_follow_37 : decode cX0_follow 37 = .ok (.iload 5, 2) := by decide +kernel
theorem dX0_follow_39 : decode cX0_follow 39 = .ok (.invokevirtual 73, 3) := by decide +kernel
theorem dX0_follow_42 : decode cX0_follow 42 = .ok (.iadd, 1) := by decide +kernel
theorem dX0_follow_43 : decode cX0_follow 43 = .ok (.putfield 25, 3) := by decide +kernel
theorem dX0_follow_46 : decode cX0_follow 46 = .ok (.aload_n 0, 1) := by decide +kernel
theorem dX0_follow_47 : decode cX0_follow 47 = .ok (.getfield 18, 3) := by decide +kernel
theorem dX0_follow_50 : decode cX0_follow 50 = .ok (.iload 4, 2) := by decide +kernel
theorem dX0_follow_52 : decode cX0_follow 52 = .ok (.iload 5, 2) := by decide +kernel
theorem dX0_follow_54 : decode cX0_follow 54 = .ok (.iastore, 1) := by decide +kernel
theorem dX0_follow_55 : decode cX0_follow 55 = .ok (.iload_n 2, 1) := by decide +kernel
theorem dX0_follow_56 : decode cX0_follow 56 = .ok (.iload 5, 2) := by decide +kernel
theorem dX0_follow_58 : decode cX0_follow 58 = .ok (.invokestatic 76, 3) := by decide +kernel
theorem dX0_follow_61 : decode cX0_follow 61 = .ok (.istore_n 2, 1) := by decide +kernel
theorem dX0_follow_62 : decode cX0_follow 62 = .ok (.iload 5, 2) := by decide +kernel
theorem dX0_follow_64 : decode cX0_follow 64 = .ok (.istore_n 3, 1) := by decide +kernel
theorem dX0_follow_65 : decode cX0_follow 65 = .ok (.iinc 4 1, 3) := by decide +kernel
theorem dX0_follow_68 : decode cX0_follow 68 = .ok (.goto (-52), 3) := by decide +kernel
theorem dX0_follow_71 : decode cX0_follow 71 = .ok (.return_, 1) := by decide +kernel
theorem dX0_cheapestNext_0 : decode cX0_cheapestNext 0 = .ok (.iconst (-1), 1) := by decide +kernel
theorem dX0_cheapestNext_1 : decode cX0_cheapestNext 1 = .ok (.istore_n 3, 1) := by decide +kernel
theorem dX0_cheapestNext_2 : decode cX0_cheapestNext 2 = .ok (.iconst 0, 1) := by decide +kernel
theorem dX0_cheapestNext_3 : decode cX0_cheapestNext 3 = .ok (.istore 4, 2) := by decide +kernel
theorem dX0_cheapestNext_5 : decode cX0_cheapestNext 5 = .ok (.iconst 0, 1) := by decide +kernel
theorem dX0_cheapestNext_6 : decode cX0_cheapestNext 6 = .ok (.istore 5, 2) := by decide +kernel
theorem dX0_cheapestNext_8 : decode cX0_cheapestNext 8 = .ok (.iload 5, 2) := by decide +kernel
theorem dX0_cheapestNext_10 : decode cX0_cheapestNext 10 = .ok (.aload_n 0, 1) := by decide +kernel
theorem dX0_cheapestNext_11 : decode cX0_cheapestNext 11 = .ok (.getfield 45, 3) := by decide +kernel
theorem dX0_cheapestNext_14 : decode cX0_cheapestNext 14 = .ok (.if_icmp .ge 47, 3) := by decide +kernel
theorem dX0_cheapestNext_17 : decode cX0_cheapestNext 17 = .ok (.iload_n 1, 1) := by decide +kernel
theorem dX0_cheapestNext_18 : decode cX0_cheapestNext 18 = .ok (.iload 5, 2) := by decide +kernel
theorem dX0_cheapestNext_20 : decode cX0_cheapestNext 20 = .ok (.invokestatic 63, 3) := by decide +kernel
theorem dX0_cheapestNext_23 : decode cX0_cheapestNext 23 = .ok (.ifCond .eq 32, 3) := by decide +kernel
theorem dX0_cheapestNext_26 : decode cX0_cheapestNext 26 = .ok (.aload_n 0, 1) := by decide +kernel
theorem dX0_cheapestNext_27 : decode cX0_cheapestNext 27 = .ok (.iload_n 1, 1) := by decide +kernel
theorem dX0_cheapestNext_28 : decode cX0_cheapestNext 28 = .ok (.iload_n 2, 1) := by decide +kernel
theorem dX0_cheapestNext_29 : decode cX0_cheapestNext 29 = .ok (.iload 5, 2) := by decide +kernel
theorem dX0_cheapestNext_31 : decode cX0_cheapestNext 31 = .ok (.invokevirtual 70, 3) := by decide +kernel
theorem dX0_cheapestNext_34 : decode cX0_cheapestNext 34 = .ok (.istore 6, 2) := by decide +kernel
theorem dX0_cheapestNext_36 : decode cX0_cheapestNext 36 = .ok (.iload_n 3, 1) := by decide +kernel
theorem dX0_cheapestNext_37 : decode cX0_cheapestNext 37 = .ok (.iconst (-1), 1) := by decide +kernel
theorem dX0_cheapestNext_38 : decode cX0_cheapestNext 38 = .ok (.if_icmp .eq 10, 3) := by decide +kernel
theorem dX0_cheapestNext_41 : decode cX0_cheapestNext 41 = .ok (.iload 6, 2) := by decide +kernel
theorem dX0_cheapestNext_43 : decode cX0_cheapestNext 43 = .ok (.iload 4, 2) := by decide +kernel
theorem dX0_cheapestNext_45 : decode cX0_cheapestNext 45 = .ok (.if_icmp .ge 10, 3) := by decide +kernel
theorem dX0_cheapestNext_48 : decode cX0_cheapestNext 48 = .ok (.iload 5, 2) := by decide +kernel
theorem dX0_cheapestNext_50 : decode cX0_cheapestNext 50 = .ok (.istore_n 3, 1) := by decide +kernel
theorem dX0_cheapestNext_51 : decode cX0_cheapestNext 51 = .ok (.iload 6, 2) := by decide +kernel
theorem dX0_cheapestNext_53 : decode cX0_cheapestNext 53 = .ok (.istore 4, 2) := by decide +kernel
theorem dX0_cheapestNext_55 : decode cX0_cheapestNext 55 = .ok (.iinc 5 1, 3) := by decide +kernel
theorem dX0_cheapestNext_58 : decode cX0_cheapestNext 58 = .ok (.goto (-50), 3) := by decide +kernel
theorem dX0_cheapestNext_61 : decode cX0_cheapestNext 61 = .ok (.iload_n 3, 1) := by decide +kernel
theorem dX0_cheapestNext_62 : decode cX0_cheapestNext 62 = .ok (.ireturn, 1) := by decide +kernel
theorem dX0_costThrough_0 : decode cX0_costThrough 0 = .ok (.aload_n 0, 1) := by decide +kernel
theorem dX0_costThrough_1 : decode cX0_costThrough 1 = .ok (.iload_n 2, 1) := by decide +kernel
theorem dX0_costThrough_2 : decode cX0_costThrough 2 = .ok (.iload_n 3, 1) := by decide +kernel
theorem dX0_costThrough_3 : decode cX0_costThrough 3 = .ok (.invokevirtual 73, 3) := by decide +kernel
theorem dX0_costThrough_6 : decode cX0_costThrough 6 = .ok (.aload_n 0, 1) := by decide +kernel
theorem dX0_costThrough_7 : decode cX0_costThrough 7 = .ok (.iload_n 1, 1) := by decide +kernel
theorem dX0_costThrough_8 : decode cX0_costThrough 8 = .ok (.iload_n 3, 1) := by decide +kernel
theorem dX0_costThrough_9 : decode cX0_costThrough 9 = .ok (.invokestatic 76, 3) := by decide +kernel
theorem dX0_costThrough_12 : decode cX0_costThrough 12 = .ok (.iload_n 3, 1) := by decide +kernel
theorem dX0_costThrough_13 : decode cX0_costThrough 13 = .ok (.invokevirtual 79, 3) := by decide +kernel
theorem dX0_costThrough_16 : decode cX0_costThrough 16 = .ok (.iadd, 1) := by decide +kernel
theorem dX0_costThrough_17 : decode cX0_costThrough 17 = .ok (.ireturn, 1) := by decide +kernel
theorem dX0_stepAt_0 : decode cX0_stepAt 0 = .ok (.iload_n 1, 1) := by decide +kernel
theorem dX0_stepAt_1 : decode cX0_stepAt 1 = .ok (.iconst 1, 1) := by decide +kernel
theorem dX0_stepAt_2 : decode cX0_stepAt 2 = .ok (.iadd, 1) := by decide +kernel
theorem dX0_stepAt_3 : decode cX0_stepAt 3 = .ok (.bipush 16, 2) := by decide +kernel
theorem dX0_stepAt_5 : decode cX0_stepAt 5 = .ok (.imul, 1) := by decide +kernel
theorem dX0_stepAt_6 : decode cX0_stepAt 6 = .ok (.iload_n 2, 1) := by decide +kernel
theorem dX0_stepAt_7 : decode cX0_stepAt 7 = .ok (.iadd, 1) := by decide +kernel
theorem dX0_stepAt_8 : decode cX0_stepAt 8 = .ok (.istore_n 3, 1) := by decide +kernel
theorem dX0_stepAt_9 : decode cX0_stepAt 9 = .ok (.iload_n 3, 1) := by decide +kernel
theorem dX0_stepAt_10 : decode cX0_stepAt 10 = .ok (.ifCond .lt 21, 3) := by decide +kernel
theorem dX0_stepAt_13 : decode cX0_stepAt 13 = .ok (.iload_n 3, 1) := by decide +kernel
theorem dX0_stepAt_14 : decode cX0_stepAt 14 = .ok (.aload_n 0, 1) := by decide +kernel
theorem dX0_stepAt_15 : decode cX0_stepAt 15 = .ok (.getfield 9, 3) := by decide +kernel
theorem dX0_stepAt_18 : decode cX0_stepAt 18 = .ok (.arraylength, 1) := by decide +kernel
theorem dX0_stepAt_19 : decode cX0_stepAt 19 = .ok (.if_icmp .ge 12, 3) := by decide +kernel
theorem dX0_stepAt_22 : decode cX0_stepAt 22 = .ok (.aload_n 0, 1) := by decide +kernel
theorem dX0_stepAt_23 : decode cX0_stepAt 23 = .ok (.getfield 9, 3) := by decide +kernel
theorem dX0_stepAt_26 : decode cX0_stepAt 26 = .ok (.iload_n 3, 1) := by decide +kernel
theorem dX0_stepAt_27 : decode cX0_stepAt 27 = .ok (.iaload, 1) := by decide +kernel
theorem dX0_stepAt_28 : decode cX0_stepAt 28 = .ok (.goto 4, 3) := by decide +kernel
theorem dX0_stepAt_31 : decode cX0_stepAt 31 = .ok (.iconst 0, 1) := by decide +kernel
theorem dX0_stepAt_32 : decode cX0_stepAt 32 = .ok (.ireturn, 1) := by decide +kernel
theorem dX0_restAt_0 : decode cX0_restAt 0 = .ok (.iload_n 1, 1) := by decide +kernel
theorem dX0_restAt_1 : decode cX0_restAt 1 = .ok (.bipush 16, 2) := by decide +kernel
theorem dX0_restAt_3 : decode cX0_restAt 3 = .ok (.imul, 1) := by decide +kernel
theorem dX0_restAt_4 : decode cX0_restAt 4 = .ok (.iload_n 2, 1) := by decide +kernel
theorem dX0_restAt_5 : decode cX0_restAt 5 = .ok (.iadd, 1) := by decide +kernel
theorem dX0_restAt_6 : decode cX0_restAt 6 = .ok (.istore_n 3, 1) := by decide +kernel
theorem dX0_restAt_7 : decode cX0_restAt 7 = .ok (.iload_n 3, 1) := by decide +kernel
theorem dX0_restAt_8 : decode cX0_restAt 8 = .ok (.ifCond .lt 21, 3) := by decide +kernel
theorem dX0_restAt_11 : decode cX0_restAt 11 = .ok (.iload_n 3, 1) := by decide +kernel
theorem dX0_restAt_12 : decode cX0_restAt 12 = .ok (.aload_n 0, 1) := by decide +kernel
theorem dX0_restAt_13 : decode cX0_restAt 13 = .ok (.getfield 15, 3) := by decide +kernel
theorem dX0_restAt_16 : decode cX0_restAt 16 = .ok (.arraylength, 1) := by decide +kernel
theorem dX0_restAt_17 : decode cX0_restAt 17 = .ok (.if_icmp .ge 12, 3) := by decide +kernel
theorem dX0_restAt_20 : decode cX0_restAt 20 = .ok (.aload_n 0, 1) := by decide +kernel
theorem dX0_restAt_21 : decode cX0_restAt 21 = .ok (.getfield 15, 3) := by decide +kernel
theorem dX0_restAt_24 : decode cX0_restAt 24 = .ok (.iload_n 3, 1) := by decide +kernel
theorem dX0_restAt_25 : decode cX0_restAt 25 = .ok (.iaload, 1) := by decide +kernel
theorem dX0_restAt_26 : decode cX0_restAt 26 = .ok (.goto 4, 3) := by decide +kernel
theorem dX0_restAt_29 : decode cX0_restAt 29 = .ok (.iconst 0, 1) := by decide +kernel
theorem dX0_restAt_30 : decode cX0_restAt 30 = .ok (.ireturn, 1) := by decide +kernel
theorem dX0_contains_0 : decode cX0_contains 0 = .ok (.iload_n 0, 1) := by decide +kernel
theorem dX0_contains_1 : decode cX0_contains 1 = .ok (.iload_n 1, 1) := by decide +kernel
theorem dX0_contains_2 : decode cX0_contains 2 = .ok (.iconst 2, 1) := by decide +kernel
theorem dX0_contains_3 : decode cX0_contains 3 = .ok (.idiv, 1) := by decide +kernel
theorem dX0_contains_4 : decode cX0_contains 4 = .ok (.ishr, 1) := by decide +kernel
theorem dX0_contains_5 : decode cX0_contains 5 = .ok (.iconst 1, 1) := by decide +kernel
theorem dX0_contains_6 : decode cX0_contains 6 = .ok (.iand, 1) := by decide +kernel
theorem dX0_contains_7 : decode cX0_contains 7 = .ok (.iconst 1, 1) := by decide +kernel
theorem dX0_contains_8 : decode cX0_contains 8 = .ok (.if_icmp .ne 7, 3) := by decide +kernel
theorem dX0_contains_11 : decode cX0_contains 11 = .ok (.iconst 1, 1) := by decide +kernel
theorem dX0_contains_12 : decode cX0_contains 12 = .ok (.goto 4, 3) := by decide +kernel
theorem dX0_contains_15 : decode cX0_contains 15 = .ok (.iconst 0, 1) := by decide +kernel
theorem dX0_contains_16 : decode cX0_contains 16 = .ok (.ireturn, 1) := by decide +kernel
theorem dX0_without_0 : decode cX0_without 0 = .ok (.iload_n 0, 1) := by decide +kernel
theorem dX0_without_1 : decode cX0_without 1 = .ok (.iconst 1, 1) := by decide +kernel
theorem dX0_without_2 : decode cX0_without 2 = .ok (.iload_n 1, 1) := by decide +kernel
theorem dX0_without_3 : decode cX0_without 3 = .ok (.iconst 2, 1) := by decide +kernel
theorem dX0_without_4 : decode cX0_without 4 = .ok (.idiv, 1) := by decide +kernel
theorem dX0_without_5 : decode cX0_without 5 = .ok (.ishl, 1) := by decide +kernel
theorem dX0_without_6 : decode cX0_without 6 = .ok (.iconst (-1), 1) := by decide +kernel
theorem dX0_without_7 : decode cX0_without 7 = .ok (.ixor, 1) := by decide +kernel
theorem dX0_without_8 : decode cX0_without 8 = .ok (.iand, 1) := by decide +kernel
theorem dX0_without_9 : decode cX0_without 9 = .ok (.ireturn, 1) := by decide +kernel
theorem dX2_init_0 : decode cX2_init 0 = .ok (.aload_n 0, 1) := by decide +kernel
theorem dX2_init_1 : decode cX2_init 1 = .ok (.invokespecial 3, 3) := by decide +kernel
theorem dX2_init_4 : decode cX2_init 4 = .ok (.aload_n 0, 1) := by decide +kernel
theorem dX2_init_5 : decode cX2_init 5 = .ok (.iconst 4, 1) := by decide +kernel
theorem dX2_init_6 : decode cX2_init 6 = .ok (.anewarray 9, 3) := by decide +kernel
theorem dX2_init_9 : decode cX2_init 9 = .ok (.putfield 11, 3) := by decide +kernel
theorem dX2_init_12 : decode cX2_init 12 = .ok (.iconst 0, 1) := by decide +kernel
theorem dX2_init_13 : decode cX2_init 13 = .ok (.istore_n 1, 1) := by decide +kernel
theorem dX2_init_14 : decode cX2_init 14 = .ok (.iload_n 1, 1) := by decide +kernel
theorem dX2_init_15 : decode cX2_init 15 = .ok (.iconst 4, 1) := by decide +kernel
theorem dX2_init_16 : decode cX2_init 16 = .ok (.if_icmp .ge 22, 3) := by decide +kernel
theorem dX2_init_19 : decode cX2_init 19 = .ok (.aload_n 0, 1) := by decide +kernel
theorem dX2_init_20 : decode cX2_init 20 = .ok (.getfield 11, 3) := by decide +kernel
theorem dX2_init_23 : decode cX2_init 23 = .ok (.iload_n 1, 1) := by decide +kernel
theorem dX2_init_24 : decode cX2_init 24 = .ok (.new 9, 3) := by decide +kernel
theorem dX2_init_27 : decode cX2_init 27 = .ok (.dup, 1) := by decide +kernel
theorem dX2_init_28 : decode cX2_init 28 = .ok (.invokespecial 17, 3) := by decide +kernel
theorem dX2_init_31 : decode cX2_init 31 = .ok (.aastore, 1) := by decide +kernel
theorem dX2_init_32 : decode cX2_init 32 = .ok (.iinc 1 1, 3) := by decide +kernel
theorem dX2_init_35 : decode cX2_init 35 = .ok (.goto (-21), 3) := by decide +kernel
theorem dX2_init_38 : decode cX2_init 38 = .ok (.return_, 1) := by decide +kernel
theorem dX2_isEmpty_0 : decode cX2_isEmpty 0 = .ok (.aload_n 0, 1) := by decide +kernel
theorem dX2_isEmpty_1 : decode cX2_isEmpty 1 = .ok (.getfield 18, 3) := by decide +kernel
theorem dX2_isEmpty_4 : decode cX2_isEmpty 4 = .ok (.ifCond .ne 7, 3) := by decide +kernel
theorem dX2_isEmpty_7 : decode cX2_isEmpty 7 = .ok (.iconst 1, 1) := by decide +kernel
theorem dX2_isEmpty_8 : decode cX2_isEmpty 8 = .ok (.goto 4, 3) := by decide +kernel
theorem dX2_isEmpty_11 : decode cX2_isEmpty 11 = .ok (.iconst 0, 1) := by decide +kernel
theorem dX2_isEmpty_12 : decode cX2_isEmpty 12 = .ok (.ireturn, 1) := by decide +kernel
theorem dX2_depth_0 : decode cX2_depth 0 = .ok (.aload_n 0, 1) := by decide +kernel
theorem dX2_depth_1 : decode cX2_depth 1 = .ok (.getfield 18, 3) := by decide +kernel
theorem dX2_depth_4 : decode cX2_depth 4 = .ok (.ireturn, 1) := by decide +kernel
theorem dX2_keep_0 : decode cX2_keep 0 = .ok (.aload_n 0, 1) := by decide +kernel
theorem dX2_keep_1 : decode cX2_keep 1 = .ok (.aload_n 0, 1) := by decide +kernel
theorem dX2_keep_2 : decode cX2_keep 2 = .ok (.getfield 22, 3) := by decide +kernel
theorem dX2_keep_5 : decode cX2_keep 5 = .ok (.invokevirtual 25, 3) := by decide +kernel
theorem dX2_keep_8 : decode cX2_keep 8 = .ok (.astore_n 2, 1) := by decide +kernel
theorem dX2_keep_9 : decode cX2_keep 9 = .ok (.aload_n 2, 1) := by decide +kernel
theorem dX2_keep_10 : decode cX2_keep 10 = .ok (.ifnull 34, 3) := by decide +kernel
theorem dX2_keep_13 : decode cX2_keep 13 = .ok (.aload_n 2, 1) := by decide +kernel
theorem dX2_keep_14 : decode cX2_keep 14 = .ok (.aload_n 1, 1) := by decide +kernel
theorem dX2_keep_15 : decode cX2_keep 15 = .ok (.invokevirtual 29, 3) := by decide +kernel
theorem dX2_keep_18 : decode cX2_keep 18 = .ok (.aload_n 0, 1) := by decide +kernel
theorem dX2_keep_19 : decode cX2_keep 19 = .ok (.aload_n 0, 1) := by decide +kernel
theorem dX2_keep_20 : decode cX2_keep 20 = .ok (.getfield 22, 3) := by decide +kernel
theorem dX2_keep_23 : decode cX2_keep 23 = .ok (.iconst 1, 1) := by decide +kernel
theorem dX2_keep_24 : decode cX2_keep 24 = .ok (.iadd, 1) := by decide +kernel
theorem dX2_keep_25 : decode cX2_keep 25 = .ok (.iconst 4, 1) := by decide +kernel
theorem dX2_keep_26 : decode cX2_keep 26 = .ok (.irem, 1) := by decide +kernel
theorem dX2_keep_27 : decode cX2_keep 27 = .ok (.putfield 22, 3) := by decide +kernel
theorem dX2_keep_30 : decode cX2_keep 30 = .ok (.aload_n 0, 1) := by decide +kernel
theorem dX2_keep_31 : decode cX2_keep 31 = .ok (.aload_n 0, 1) := by decide +kernel
theorem dX2_keep_32 : decode cX2_keep 32 = .ok (.getfield 18, 3) := by decide +kernel
theorem dX2_keep_35 : decode cX2_keep 35 = .ok (.iconst 1, 1) := by decide +kernel
theorem dX2_keep_36 : decode cX2_keep 36 = .ok (.iadd, 1) := by decide +kernel
theorem dX2_keep_37 : decode cX2_keep 37 = .ok (.iconst 4, 1) := by decide +kernel
theorem dX2_keep_38 : decode cX2_keep 38 = .ok (.invokestatic 33, 3) := by decide +kernel
theorem dX2_keep_41 : decode cX2_keep 41 = .ok (.putfield 18, 3) := by decide +kernel
theorem dX2_keep_44 : decode cX2_keep 44 = .ok (.return_, 1) := by decide +kernel
theorem dX2_restore_0 : decode cX2_restore 0 = .ok (.aload_n 0, 1) := by decide +kernel
theorem dX2_restore_1 : decode cX2_restore 1 = .ok (.getfield 22, 3) := by decide +kernel
theorem dX2_restore_4 : decode cX2_restore 4 = .ok (.iconst 4, 1) := by decide +kernel
theorem dX2_restore_5 : decode cX2_restore 5 = .ok (.iadd, 1) := by decide +kernel
theorem dX2_restore_6 : decode cX2_restore 6 = .ok (.iconst 1, 1) := by decide +kernel
theorem dX2_restore_7 : decode cX2_restore 7 = .ok (.isub, 1) := by decide +kernel
theorem dX2_restore_8 : decode cX2_restore 8 = .ok (.iconst 4, 1) := by decide +kernel
theorem dX2_restore_9 : decode cX2_restore 9 = .ok (.irem, 1) := by decide +kernel
theorem dX2_restore_10 : decode cX2_restore 10 = .ok (.istore_n 2, 1) := by decide +kernel
theorem dX2_restore_11 : decode cX2_restore 11 = .ok (.aload_n 0, 1) := by decide +kernel
theorem dX2_restore_12 : decode cX2_restore 12 = .ok (.iload_n 2, 1) := by decide +kernel
theorem dX2_restore_13 : decode cX2_restore 13 = .ok (.invokevirtual 25, 3) := by decide +kernel
theorem dX2_restore_16 : decode cX2_restore 16 = .ok (.astore_n 3, 1) := by decide +kernel
theorem dX2_restore_17 : decode cX2_restore 17 = .ok (.aload_n 3, 1) := by decide +kernel
theorem dX2_restore_18 : decode cX2_restore 18 = .ok (.ifnull 30, 3) := by decide +kernel
theorem dX2_restore_21 : decode cX2_restore 21 = .ok (.aload_n 0, 1) := by decide +kernel
theorem dX2_restore_22 : decode cX2_restore 22 = .ok (.getfield 18, 3) := by decide +kernel
theorem dX2_restore_25 : decode cX2_restore 25 = .ok (.ifCond .le 23, 3) := by decide +kernel
theorem dX2_restore_28 : decode cX2_restore 28 = .ok (.aload_n 1, 1) := by decide +kernel
theorem dX2_restore_29 : decode cX2_restore 29 = .ok (.aload_n 3, 1) := by decide +kernel
theorem dX2_restore_30 : decode cX2_restore 30 = .ok (.invokevirtual 29, 3) := by decide +kernel
theorem dX2_restore_33 : decode cX2_restore 33 = .ok (.aload_n 0, 1) := by decide +kernel
theorem dX2_restore_34 : decode cX2_restore 34 = .ok (.iload_n 2, 1) := by decide +kernel
theorem dX2_restore_35 : decode cX2_restore 35 = .ok (.putfield 22, 3) := by decide +kernel
theorem dX2_restore_38 : decode cX2_restore 38 = .ok (.aload_n 0, 1) := by decide +kernel
theorem dX2_restore_39 : decode cX2_restore 39 = .ok (.dup, 1) := by decide +kernel
theorem dX2_restore_40 : decode cX2_restore 40 = .ok (.getfield 18, 3) := by decide +kernel
theorem dX2_restore_43 : decode cX2_restore 43 = .ok (.iconst 1, 1) := by decide +kernel
theorem dX2_restore_44 : decode cX2_restore 44 = .ok (.isub, 1) := by decide +kernel
theorem dX2_restore_45 : decode cX2_restore 45 = .ok (.putfield 18, 3) := by decide +kernel
theorem dX2_restore_48 : decode cX2_restore 48 = .ok (.return_, 1) := by decide +kernel
theorem dX2_slotAt_0 : decode cX2_slotAt 0 = .ok (.iload_n 1, 1) := by decide +kernel
theorem dX2_slotAt_1 : decode cX2_slotAt 1 = .ok (.ifCond .lt 17, 3) := by decide +kernel
theorem dX2_slotAt_4 : decode cX2_slotAt 4 = .ok (.iload_n 1, 1) := by decide +kernel
theorem dX2_slotAt_5 : decode cX2_slotAt 5 = .ok (.iconst 4, 1) := by decide +kernel
theorem dX2_slotAt_6 : decode cX2_slotAt 6 = .ok (.if_icmp .ge 12, 3) := by decide +kernel
theorem dX2_slotAt_9 : decode cX2_slotAt 9 = .ok (.aload_n 0, 1) := by decide +kernel
theorem dX2_slotAt_10 : decode cX2_slotAt 10 = .ok (.getfield 11, 3) := by decide +kernel
theorem dX2_slotAt_13 : decode cX2_slotAt 13 = .ok (.iload_n 1, 1) := by decide +kernel
theorem dX2_slotAt_14 : decode cX2_slotAt 14 = .ok (.aaload, 1) := by decide +kernel
theorem dX2_slotAt_15 : decode cX2_slotAt 15 = .ok (.goto 4, 3) := by decide +kernel
theorem dX2_slotAt_18 : decode cX2_slotAt 18 = .ok (.aconst_null, 1) := by decide +kernel
theorem dX2_slotAt_19 : decode cX2_slotAt 19 = .ok (.areturn, 1) := by decide +kernel
theorem dX3_init_0 : decode cX3_init 0 = .ok (.aload_n 0, 1) := by decide +kernel
theorem dX3_init_1 : decode cX3_init 1 = .ok (.invokespecial 3, 3) := by decide +kernel
theorem dX3_init_4 : decode cX3_init 4 = .ok (.aload_n 0, 1) := by decide +kernel
theorem dX3_init_5 : decode cX3_init 5 = .ok (.bipush 8, 2) := by decide +kernel
theorem dX3_init_7 : decode cX3_init 7 = .ok (.newarray .int, 2) := by decide +kernel
theorem dX3_init_9 : decode cX3_init 9 = .ok (.putfield 9, 3) := by decide +kernel
theorem dX3_init_12 : decode cX3_init 12 = .ok (.return_, 1) := by decide +kernel
theorem dX3_fewestRuns_0 : decode cX3_fewestRuns 0 = .ok (.aload_n 1, 1) := by decide +kernel
theorem dX3_fewestRuns_1 : decode cX3_fewestRuns 1 = .ok (.invokevirtual 15, 3) := by decide +kernel
theorem dX3_fewestRuns_4 : decode cX3_fewestRuns 4 = .ok (.bipush 8, 2) := by decide +kernel
theorem dX3_fewestRuns_6 : decode cX3_fewestRuns 6 = .ok (.invokestatic 21, 3) := by decide +kernel
theorem dX3_fewestRuns_9 : decode cX3_fewestRuns 9 = .ok (.istore_n 3, 1) := by decide +kernel
theorem dX3_fewestRuns_10 : decode cX3_fewestRuns 10 = .ok (.aload_n 0, 1) := by decide +kernel
theorem dX3_fewestRuns_11 : decode cX3_fewestRuns 11 = .ok (.aload_n 1, 1) := by decide +kernel
theorem dX3_fewestRuns_12 : decode cX3_fewestRuns 12 = .ok (.iload_n 2, 1) := by decide +kernel
theorem dX3_fewestRuns_13 : decode cX3_fewestRuns 13 = .ok (.iload_n 3, 1) := by decide +kernel
theorem dX3_fewestRuns_14 : decode cX3_fewestRuns 14 = .ok (.invokevirtual 27, 3) := by decide +kernel
theorem dX3_fewestRuns_17 : decode cX3_fewestRuns 17 = .ok (.iconst 0, 1) := by decide +kernel
theorem dX3_fewestRuns_18 : decode cX3_fewestRuns 18 = .ok (.istore 4, 2) := by decide +kernel
theorem dX3_fewestRuns_20 : decode cX3_fewestRuns 20 = .ok (.iconst 0, 1) := by decide +kernel
theorem dX3_fewestRuns_21 : decode cX3_fewestRuns 21 = .ok (.istore 5, 2) := by decide +kernel
theorem dX3_fewestRuns_23 : decode cX3_fewestRuns 23 = .ok (.iload 5, 2) := by decide +kernel
theorem dX3_fewestRuns_25 : decode cX3_fewestRuns 25 = .ok (.iload_n 3, 1) := by decide +kernel
theorem dX3_fewestRuns_26 : decode cX3_fewestRuns 26 = .ok (.if_icmp .ge 50, 3) := by decide +kernel
theorem dX3_fewestRuns_29 : decode cX3_fewestRuns 29 = .ok (.aload_n 1, 1) := by decide +kernel
theorem dX3_fewestRuns_30 : decode cX3_fewestRuns 30 = .ok (.iload 5, 2) := by decide +kernel
theorem dX3_fewestRuns_32 : decode cX3_fewestRuns 32 = .ok (.invokevirtual 31, 3) := by decide +kernel
theorem dX3_fewestRuns_35 : decode cX3_fewestRuns 35 = .ok (.iload_n 2, 1) := by decide +kernel
theorem dX3_fewestRuns_36 : decode cX3_fewestRuns 36 = .ok (.if_icmp .ne 34, 3) := by decide +kernel
theorem dX3_fewestRuns_39 : decode cX3_fewestRuns 39 = .ok (.aload_n 0, 1) := by decide +kernel
theorem dX3_fewestRuns_40 : decode cX3_fewestRuns 40 = .ok (.getfield 9, 3) := by decide +kernel
theorem dX3_fewestRuns_43 : decode cX3_fewestRuns 43 = .ok (.iload 5, 2) := by decide +kernel
theorem dX3_fewestRuns_45 : decode cX3_fewestRuns 45 = .ok (.iaload, 1) := by decide +kernel
theorem dX3_fewestRuns_46 : decode cX3_fewestRuns 46 = .ok (.iload 5, 2) := by decide +kernel
theorem dX3_fewestRuns_48 : decode cX3_fewestRuns 48 = .ok (.if_icmp .ne 22, 3) := by decide +kernel
theorem dX3_fewestRuns_51 : decode cX3_fewestRuns 51 = .ok (.iload 4, 2) := by decide +kernel
theorem dX3_fewestRuns_53 : decode cX3_fewestRuns 53 = .ok (.iconst 1, 1) := by decide +kernel
theorem dX3_fewestRuns_54 : decode cX3_fewestRuns 54 = .ok (.aload_n 0, 1) := by decide +kernel
theorem dX3_fewestRuns_55 : decode cX3_fewestRuns 55 = .ok (.aload_n 1, 1) := by decide +kernel
theorem dX3_fewestRuns_56 : decode cX3_fewestRuns 56 = .ok (.iload 5, 2) := by decide +kernel
theorem dX3_fewestRuns_58 : decode cX3_fewestRuns 58 = .ok (.iload_n 3, 1) := by decide +kernel
theorem dX3_fewestRuns_59 : decode cX3_fewestRuns 59 = .ok (.invokevirtual 35, 3) := by decide +kernel
theorem dX3_fewestRuns_62 : decode cX3_fewestRuns 62 = .ok (.iconst 2, 1) := by decide +kernel
theorem dX3_fewestRuns_63 : decode cX3_fewestRuns 63 = .ok (.idiv, 1) := by decide +kernel
theorem dX3_fewestRuns_64 : decode cX3_fewestRuns 64 = .ok (.invokestatic 39, 3) := by decide +kernel
theorem dX3_fewestRuns_67 : decode cX3_fewestRuns 67 = .ok (.iadd, 1) := by decide +kernel
theorem dX3_fewestRuns_68 : decode cX3_fewestRuns 68 = .ok (.istore 4, 2) := by decide +kernel
theorem dX3_fewestRuns_70 : decode cX3_fewestRuns 70 = .ok (.iinc 5 1, 3) := by decide +kernel
theorem dX3_fewestRuns_73 : decode cX3_fewestRuns 73 = .ok (.goto (-50), 3) := by decide +kernel
theorem dX3_fewestRuns_76 : decode cX3_fewestRuns 76 = .ok (.iload 4, 2) := by decide +kernel
theorem dX3_fewestRuns_78 : decode cX3_fewestRuns 78 = .ok (.ireturn, 1) := by decide +kernel
theorem dX3_joinComponents_0 : decode cX3_joinComponents 0 = .ok (.iconst 0, 1) := by decide +kernel
theorem dX3_joinComponents_1 : decode cX3_joinComponents 1 = .ok (.istore 4, 2) := by decide +kernel
theorem dX3_joinComponents_3 : decode cX3_joinComponents 3 = .ok (.iload 4, 2) := by decide +kernel
theorem dX3_joinComponents_5 : decode cX3_joinComponents 5 = .ok (.iload_n 3, 1) := by decide +kernel
theorem dX3_joinComponents_6 : decode cX3_joinComponents 6 = .ok (.if_icmp .ge 18, 3) := by decide +kernel
theorem dX3_joinComponents_9 : decode cX3_joinComponents 9 = .ok (.aload_n 0, 1) := by decide +kernel
theorem dX3_joinComponents_10 : decode cX3_joinComponents 10 = .ok (.getfield 9, 3) := by decide +kernel
theorem dX3_joinComponents_13 : decode cX3_joinComponents 13 = .ok (.iload 4, 2) := by decide +kernel
theorem dX3_joinComponents_15 : decode cX3_joinComponents 15 = .ok (.iload 4, 2) := by decide +kernel
theorem dX3_joinComponents_17 : decode cX3_joinComponents 17 = .ok (.iastore, 1) := by decide +kernel
theorem dX3_joinComponents_18 : decode cX3_joinComponents 18 = .ok (.iinc 4 1, 3) := by decide +kernel
theorem dX3_joinComponents_21 : decode cX3_joinComponents 21 = .ok (.goto (-18), 3) := by decide +kernel
theorem dX3_joinComponents_24 : decode cX3_joinComponents 24 = .ok (.iconst 0, 1) := by decide +kernel
theorem dX3_joinComponents_25 : decode cX3_joinComponents 25 = .ok (.istore 4, 2) := by decide +kernel
theorem dX3_joinComponents_27 : decode cX3_joinComponents 27 = .ok (.iload 4, 2) := by decide +kernel
theorem dX3_joinComponents_29 : decode cX3_joinComponents 29 = .ok (.iload_n 3, 1) := by decide +kernel
theorem dX3_joinComponents_30 : decode cX3_joinComponents 30 = .ok (.if_icmp .ge 75, 3) := by decide +kernel
theorem dX3_joinComponents_33 : decode cX3_joinComponents 33 = .ok (.iconst 0, 1) := by decide +kernel
theorem dX3_joinComponents_34 : decode cX3_joinComponents 34 = .ok (.istore 5, 2) := by decide +kernel
theorem dX3_joinComponents_36 : decode cX3_joinComponents 36 = .ok (.iload 5, 2) := by decide +kernel
theorem dX3_joinComponents_38 : decode cX3_joinComponents 38 = .ok (.iload 4, 2) := by decide +kernel
theorem dX3_joinComponents_40 : decode cX3_joinComponents 40 = .ok (.if_icmp .ge 59, 3) := by decide +kernel
theorem dX3_joinComponents_43 : decode cX3_joinComponents 43 = .ok (.aload_n 1, 1) := by decide +kernel
theorem dX3_joinComponents_44 : decode cX3_joinComponents 44 = .ok (.iload 4, 2) := by decide +kernel
theorem dX3_joinComponents_46 : decode cX3_joinComponents 46 = .ok (.invokevirtual 31, 3) := by decide +kernel
theorem dX3_joinComponents_49 : decode cX3_joinComponents 49 = .ok (.iload_n 2, 1) := by decide +kernel
theorem dX3_joinComponents_50 : decode cX3_joinComponents 50 = .ok (.if_icmp .ne 43, 3) := by decide +kernel
theorem dX3_joinComponents_53 : decode cX3_joinComponents 53 = .ok (.aload_n 1, 1) := by decide +kernel
theorem dX3_joinComponents_54 : decode cX3_joinComponents 54 = .ok (.iload 5, 2) := by decide +kernel
theorem dX3_joinComponents_56 : decode cX3_joinComponents 56 = .ok (.invokevirtual 31, 3) := by decide +kernel
theorem dX3_joinComponents_59 : decode cX3_joinComponents 59 = .ok (.iload_n 2, 1) := by decide +kernel
theorem dX3_joinComponents_60 : decode cX3_joinComponents 60 = .ok (.if_icmp .ne 33, 3) := by decide +kernel
theorem dX3_joinComponents_63 : decode cX3_joinComponents 63 = .ok (.aload_n 1, 1) := by decide +kernel
theorem dX3_joinComponents_64 : decode cX3_joinComponents 64 = .ok (.iload 4, 2) := by decide +kernel
theorem dX3_joinComponents_66 : decode cX3_joinComponents 66 = .ok (.iload 5, 2) := by decide +kernel
theorem dX3_joinComponents_68 : decode cX3_joinComponents 68 = .ok (.invokestatic 42, 3) := by decide +kernel
theorem dX3_joinComponents_71 : decode cX3_joinComponents 71 = .ok (.ifCond .eq 22, 3) := by decide +kernel
theorem dX3_joinComponents_74 : decode cX3_joinComponents 74 = .ok (.aload_n 0, 1) := by decide +kernel
theorem dX3_joinComponents_75 : decode cX3_joinComponents 75 = .ok (.aload_n 0, 1) := by decide +kernel
theorem dX3_joinComponents_76 : decode cX3_joinComponents 76 = .ok (.getfield 9, 3) := by decide +kernel
theorem dX3_joinComponents_79 : decode cX3_joinComponents 79 = .ok (.iload 4, 2) := by decide +kernel
theorem dX3_joinComponents_81 : decode cX3_joinComponents 81 = .ok (.iaload, 1) := by decide +kernel
theorem dX3_joinComponents_82 : decode cX3_joinComponents 82 = .ok (.aload_n 0, 1) := by decide +kernel
theorem dX3_joinComponents_83 : decode cX3_joinComponents 83 = .ok (.getfield 9, 3) := by decide +kernel
theorem dX3_joinComponents_86 : decode cX3_joinComponents 86 = .ok (.iload 5, 2) := by decide +kernel
theorem dX3_joinComponents_88 : decode cX3_joinComponents 88 = .ok (.iaload, 1) := by decide +kernel
theorem dX3_joinComponents_89 : decode cX3_joinComponents 89 = .ok (.iload_n 3, 1) := by decide +kernel
theorem dX3_joinComponents_90 : decode cX3_joinComponents 90 = .ok (.invokevirtual 46, 3) := by decide +kernel
theorem dX3_joinComponents_93 : decode cX3_joinComponents 93 = .ok (.iinc 5 1, 3) := by decide +kernel
theorem dX3_joinComponents_96 : decode cX3_joinComponents 96 = .ok (.goto (-60), 3) := by decide +kernel
theorem dX3_joinComponents_99 : decode cX3_joinComponents 99 = .ok (.iinc 4 1, 3) := by decide +kernel
theorem dX3_joinComponents_102 : decode cX3_joinComponents 102 = .ok (.goto (-75), 3) := by decide +kernel
theorem dX3_joinComponents_105 : decode cX3_joinComponents 105 = .ok (.return_, 1) := by decide +kernel
theorem dX3_touch_0 : decode cX3_touch 0 = .ok (.iconst 2, 1) := by decide +kernel
theorem dX3_touch_1 : decode cX3_touch 1 = .ok (.iload_n 1, 1) := by decide +kernel
theorem dX3_touch_2 : decode cX3_touch 2 = .ok (.imul, 1) := by decide +kernel
theorem dX3_touch_3 : decode cX3_touch 3 = .ok (.istore_n 3, 1) := by decide +kernel
theorem dX3_touch_4 : decode cX3_touch 4 = .ok (.iconst 2, 1) := by decide +kernel
theorem dX3_touch_5 : decode cX3_touch 5 = .ok (.iload_n 2, 1) := by decide +kernel
theorem dX3_touch_6 : decode cX3_touch 6 = .ok (.imul, 1) := by decide +kernel
theorem dX3_touch_7 : decode cX3_touch 7 = .ok (.istore 4, 2) := by decide +kernel
theorem dX3_touch_9 : decode cX3_touch 9 = .ok (.aload_n 0, 1) := by decide +kernel
theorem dX3_touch_10 : decode cX3_touch 10 = .ok (.iload_n 3, 1) := by decide +kernel
theorem dX3_touch_11 : decode cX3_touch 11 = .ok (.iload 4, 2) := by decide +kernel
theorem dX3_touch_13 : decode cX3_touch 13 = .ok (.invokevirtual 50, 3) := by decide +kernel
theorem dX3_touch_16 : decode cX3_touch 16 = .ok (.ifCond .ne 41, 3) := by decide +kernel
theorem dX3_touch_19 : decode cX3_touch 19 = .ok (.aload_n 0, 1) := by decide +kernel
theorem dX3_touch_20 : decode cX3_touch 20 = .ok (.iload_n 3, 1) := by decide +kernel
theorem dX3_touch_21 : decode cX3_touch 21 = .ok (.iload 4, 2) := by decide +kernel
theorem dX3_touch_23 : decode cX3_touch 23 = .ok (.iconst 1, 1) := by decide +kernel
theorem dX3_touch_24 : decode cX3_touch 24 = .ok (.iadd, 1) := by decide +kernel
theorem dX3_touch_25 : decode cX3_touch 25 = .ok (.invokevirtual 50, 3) := by decide +kernel
theorem dX3_touch_28 : decode cX3_touch 28 = .ok (.ifCond .ne 29, 3) := by decide +kernel
theorem dX3_touch_31 : decode cX3_touch 31 = .ok (.aload_n 0, 1) := by decide +kernel
theorem dX3_touch_32 : decode cX3_touch 32 = .ok (.iload_n 3, 1) := by decide +kernel
theorem dX3_touch_33 : decode cX3_touch 33 = .ok (.iconst 1, 1) := by decide +kernel
theorem dX3_touch_34 : decode cX3_touch 34 = .ok (.iadd, 1) := by decide +kernel
theorem dX3_touch_35 : decode cX3_touch 35 = .ok (.iload 4, 2) := by decide +kernel
theorem dX3_touch_37 : decode cX3_touch 37 = .ok (.invokevirtual 50, 3) := by decide +kernel
theorem dX3_touch_40 : decode cX3_touch 40 = .ok (.ifCond .ne 17, 3) := by decide +kernel
theorem dX3_touch_43 : decode cX3_touch 43 = .ok (.aload_n 0, 1) := by decide +kernel
theorem dX3_touch_44 : decode cX3_touch 44 = .ok (.iload_n 3, 1) := by decide +kernel
theorem dX3_touch_45 : decode cX3_touch 45 = .ok (.iconst 1, 1) := by decide +kernel
theorem dX3_touch_46 : decode cX3_touch 46 = .ok (.iadd, 1) := by decide +kernel
theorem dX3_touch_47 : decode cX3_touch 47 = .ok (.iload 4, 2) := by decide +kernel
theorem dX3_touch_49 : decode cX3_touch 49 = .ok (.iconst 1, 1) := by decide +kernel
theorem dX3_touch_50 : decode cX3_touch 50 = .ok (.iadd, 1) := by decide +kernel
theorem dX3_touch_51 : decode cX3_touch 51 = .ok (.invokevirtual 50, 3) := by decide +kernel
theorem dX3_touch_54 : decode cX3_touch 54 = .ok (.ifCond .eq 7, 3) := by decide +kernel
theorem dX3_touch_57 : decode cX3_touch 57 = .ok (.iconst 1, 1) := by decide +kernel
theorem dX3_touch_58 : decode cX3_touch 58 = .ok (.goto 4, 3) := by decide +kernel
theorem dX3_touch_61 : decode cX3_touch 61 = .ok (.iconst 0, 1) := by decide +kernel
theorem dX3_touch_62 : decode cX3_touch 62 = .ok (.ireturn, 1) := by decide +kernel
theorem dX3_rename_0 : decode cX3_rename 0 = .ok (.iconst 0, 1) := by decide +kernel
theorem dX3_rename_1 : decode cX3_rename 1 = .ok (.istore 4, 2) := by decide +kernel
theorem dX3_rename_3 : decode cX3_rename 3 = .ok (.iload 4, 2) := by decide +kernel
theorem dX3_rename_5 : decode cX3_rename 5 = .ok (.iload_n 3, 1) := by decide +kernel
theorem dX3_rename_6 : decode cX3_rename 6 = .ok (.if_icmp .ge 28, 3) := by decide +kernel
theorem dX3_rename_9 : decode cX3_rename 9 = .ok (.aload_n 0, 1) := by decide +kernel
theorem dX3_rename_10 : decode cX3_rename 10 = .ok (.getfield 9, 3) := by decide +kernel
theorem dX3_rename_13 : decode cX3_rename 13 = .ok (.iload 4, 2) := by decide +kernel
theorem dX3_rename_15 : decode cX3_rename 15 = .ok (.iaload, 1) := by decide +kernel
theorem dX3_rename_16 : decode cX3_rename 16 = .ok (.iload_n 1, 1) := by decide +kernel
theorem dX3_rename_17 : decode cX3_rename 17 = .ok (.if_icmp .ne 11, 3) := by decide +kernel
theorem dX3_rename_20 : decode cX3_rename 20 = .ok (.aload_n 0, 1) := by decide +kernel
theorem dX3_rename_21 : decode cX3_rename 21 = .ok (.getfield 9, 3) := by decide +kernel
theorem dX3_rename_24 : decode cX3_rename 24 = .ok (.iload 4, 2) := by decide +kernel
theorem dX3_rename_26 : decode cX3_rename 26 = .ok (.iload_n 2, 1) := by decide +kernel
theorem dX3_rename_27 : decode cX3_rename 27 = .ok (.iastore, 1) := by decide +kernel
theorem dX3_rename_28 : decode cX3_rename 28 = .ok (.iinc 4 1, 3) := by decide +kernel
theorem dX3_rename_31 : decode cX3_rename 31 = .ok (.goto (-28), 3) := by decide +kernel
theorem dX3_rename_34 : decode cX3_rename 34 = .ok (.return_, 1) := by decide +kernel
theorem dX3_countOddVertices_0 : decode cX3_countOddVertices 0 = .ok (.iconst 0, 1) := by decide +kernel
theorem dX3_countOddVertices_1 : decode cX3_countOddVertices 1 = .ok (.istore 4, 2) := by decide +kernel
theorem dX3_countOddVertices_3 : decode cX3_countOddVertices 3 = .ok (.iconst 0, 1) := by decide +kernel
theorem dX3_countOddVertices_4 : decode cX3_countOddVertices 4 = .ok (.istore 5, 2) := by decide +kernel
theorem dX3_countOddVertices_6 : decode cX3_countOddVertices 6 = .ok (.iload 5, 2) := by decide +kernel
theorem dX3_countOddVertices_8 : decode cX3_countOddVertices 8 = .ok (.iconst 2, 1) := by decide +kernel
theorem dX3_countOddVertices_9 : decode cX3_countOddVertices 9 = .ok (.iload_n 3, 1) := by decide +kernel
theorem dX3_countOddVertices_10 : decode cX3_countOddVertices 10 = .ok (.imul, 1) := by decide +kernel
theorem dX3_countOddVertices_11 : decode cX3_countOddVertices 11 = .ok (.if_icmp .ge 36, 3) := by decide +kernel
theorem dX3_countOddVertices_14 : decode cX3_countOddVertices 14 = .ok (.aload_n 0, 1) := by decide +kernel
theorem dX3_countOddVertices_15 : decode cX3_countOddVertices 15 = .ok (.getfield 9, 3) := by decide +kernel
theorem dX3_countOddVertices_18 : decode cX3_countOddVertices 18 = .ok (.iload 5, 2) := by decide +kernel
theorem dX3_countOddVertices_20 : decode cX3_countOddVertices 20 = .ok (.iconst 2, 1) := by decide +kernel
theorem dX3_countOddVertices_21 : decode cX3_countOddVertices 21 = .ok (.idiv, 1) := by decide +kernel
theorem dX3_countOddVertices_22 : decode cX3_countOddVertices 22 = .ok (.iaload, 1) := by decide +kernel
theorem dX3_countOddVertices_23 : decode cX3_countOddVertices 23 = .ok (.iload_n 2, 1) := by decide +kernel
theorem dX3_countOddVertices_24 : decode cX3_countOddVertices 24 = .ok (.if_icmp .ne 17, 3) := by decide +kernel
theorem dX3_countOddVertices_27 : decode cX3_countOddVertices 27 = .ok (.aload_n 0, 1) := by decide +kernel
theorem dX3_countOddVertices_28 : decode cX3_countOddVertices 28 = .ok (.aload_n 1, 1) := by decide +kernel
theorem dX3_countOddVertices_29 : decode cX3_countOddVertices 29 = .ok (.iload 5, 2) := by decide +kernel
theorem dX3_countOddVertices_31 : decode cX3_countOddVertices 31 = .ok (.iload_n 3, 1) := by decide +kernel
theorem dX3_countOddVertices_32 : decode cX3_countOddVertices 32 = .ok (.invokevirtual 54, 3) := by decide +kernel
theorem dX3_countOddVertices_35 : decode cX3_countOddVertices 35 = .ok (.ifCond .eq 6, 3) := by decide +kernel
theorem dX3_countOddVertices_38 : decode cX3_countOddVertices 38 = .ok (.iinc 4 1, 3) := by decide +kernel
theorem dX3_countOddVertices_41 : decode cX3_countOddVertices 41 = .ok (.iinc 5 1, 3) := by decide +kernel
theorem dX3_countOddVertices_44 : decode cX3_countOddVertices 44 = .ok (.goto (-38), 3) := by decide +kernel
theorem dX3_countOddVertices_47 : decode cX3_countOddVertices 47 = .ok (.iload 4, 2) := by decide +kernel
theorem dX3_countOddVertices_49 : decode cX3_countOddVertices 49 = .ok (.ireturn, 1) := by decide +kernel
theorem dX3_isOddVertex_0 : decode cX3_isOddVertex 0 = .ok (.iconst 0, 1) := by decide +kernel
theorem dX3_isOddVertex_1 : decode cX3_isOddVertex 1 = .ok (.istore 4, 2) := by decide +kernel
theorem dX3_isOddVertex_3 : decode cX3_isOddVertex 3 = .ok (.iconst 0, 1) := by decide +kernel
theorem dX3_isOddVertex_4 : decode cX3_isOddVertex 4 = .ok (.istore 5, 2) := by decide +kernel
theorem dX3_isOddVertex_6 : decode cX3_isOddVertex 6 = .ok (.iload 5, 2) := by decide +kernel
theorem dX3_isOddVertex_8 : decode cX3_isOddVertex 8 = .ok (.iconst 2, 1) := by decide +kernel
theorem dX3_isOddVertex_9 : decode cX3_isOddVertex 9 = .ok (.iload_n 3, 1) := by decide +kernel
theorem dX3_isOddVertex_10 : decode cX3_isOddVertex 10 = .ok (.imul, 1) := by decide +kernel
theorem dX3_isOddVertex_11 : decode cX3_isOddVertex 11 = .ok (.if_icmp .ge 50, 3) := by decide +kernel
theorem dX3_isOddVertex_14 : decode cX3_isOddVertex 14 = .ok (.aload_n 0, 1) := by decide +kernel
theorem dX3_isOddVertex_15 : decode cX3_isOddVertex 15 = .ok (.getfield 9, 3) := by decide +kernel
theorem dX3_isOddVertex_18 : decode cX3_isOddVertex 18 = .ok (.iload 5, 2) := by decide +kernel
theorem dX3_isOddVertex_20 : decode cX3_isOddVertex 20 = .ok (.iconst 2, 1) := by decide +kernel
theorem dX3_isOddVertex_21 : decode cX3_isOddVertex 21 = .ok (.idiv, 1) := by decide +kernel
theorem dX3_isOddVertex_22 : decode cX3_isOddVertex 22 = .ok (.iaload, 1) := by decide +kernel
theorem dX3_isOddVertex_23 : decode cX3_isOddVertex 23 = .ok (.aload_n 0, 1) := by decide +kernel
theorem dX3_isOddVertex_24 : decode cX3_isOddVertex 24 = .ok (.getfield 9, 3) := by decide +kernel
theorem dX3_isOddVertex_27 : decode cX3_isOddVertex 27 = .ok (.iload_n 2, 1) := by decide +kernel
theorem dX3_isOddVertex_28 : decode cX3_isOddVertex 28 = .ok (.iconst 2, 1) := by decide +kernel
theorem dX3_isOddVertex_29 : decode cX3_isOddVertex 29 = .ok (.idiv, 1) := by decide +kernel
theorem dX3_isOddVertex_30 : decode cX3_isOddVertex 30 = .ok (.iaload, 1) := by decide +kernel
theorem dX3_isOddVertex_31 : decode cX3_isOddVertex 31 = .ok (.if_icmp .ne 24, 3) := by decide +kernel
theorem dX3_isOddVertex_34 : decode cX3_isOddVertex 34 = .ok (.aload_n 1, 1) := by decide +kernel
theorem dX3_isOddVertex_35 : decode cX3_isOddVertex 35 = .ok (.iload_n 2, 1) := by decide +kernel
theorem dX3_isOddVertex_36 : decode cX3_isOddVertex 36 = .ok (.iload 5, 2) := by decide +kernel
theorem dX3_isOddVertex_38 : decode cX3_isOddVertex 38 = .ok (.invokevirtual 50, 3) := by decide +kernel
theorem dX3_isOddVertex_41 : decode cX3_isOddVertex 41 = .ok (.ifCond .eq 14, 3) := by decide +kernel
theorem dX3_isOddVertex_44 : decode cX3_isOddVertex 44 = .ok (.iload 5, 2) := by decide +kernel
theorem dX3_isOddVertex_46 : decode cX3_isOddVertex 46 = .ok (.iload_n 2, 1) := by decide +kernel
theorem dX3_isOddVertex_47 : decode cX3_isOddVertex 47 = .ok (.if_icmp .ge 5, 3) := by decide +kernel
theorem dX3_isOddVertex_50 : decode cX3_isOddVertex 50 = .ok (.iconst 0, 1) := by decide +kernel
theorem dX3_isOddVertex_51 : decode cX3_isOddVertex 51 = .ok (.ireturn, 1) := by decide +kernel
theorem dX3_isOddVertex_52 : decode cX3_isOddVertex 52 = .ok (.iinc 4 1, 3) := by decide +kernel
theorem dX3_isOddVertex_55 : decode cX3_isOddVertex 55 = .ok (.iinc 5 1, 3) := by decide +kernel
theorem dX3_isOddVertex_58 : decode cX3_isOddVertex 58 = .ok (.goto (-52), 3) := by decide +kernel
theorem dX3_isOddVertex_61 : decode cX3_isOddVertex 61 = .ok (.iload 4, 2) := by decide +kernel
theorem dX3_isOddVertex_63 : decode cX3_isOddVertex 63 = .ok (.iconst 2, 1) := by decide +kernel
theorem dX3_isOddVertex_64 : decode cX3_isOddVertex 64 = .ok (.irem, 1) := by decide +kernel
theorem dX3_isOddVertex_65 : decode cX3_isOddVertex 65 = .ok (.iconst 1, 1) := by decide +kernel
theorem dX3_isOddVertex_66 : decode cX3_isOddVertex 66 = .ok (.if_icmp .ne 7, 3) := by decide +kernel
theorem dX3_isOddVertex_69 : decode cX3_isOddVertex 69 = .ok (.iconst 1, 1) := by decide +kernel
theorem dX3_isOddVertex_70 : decode cX3_isOddVertex 70 = .ok (.goto 4, 3) := by decide +kernel
theorem dX3_isOddVertex_73 : decode cX3_isOddVertex 73 = .ok (.iconst 0, 1) := by decide +kernel
theorem dX3_isOddVertex_74 : decode cX3_isOddVertex 74 = .ok (.ireturn, 1) := by decide +kernel
theorem dX4_init_0 : decode cX4_init 0 = .ok (.aload_n 0, 1) := by decide +kernel
theorem dX4_init_1 : decode cX4_init 1 = .ok (.invokespecial 3, 3) := by decide +kernel
theorem dX4_init_4 : decode cX4_init 4 = .ok (.aload_n 0, 1) := by decide +kernel
theorem dX4_init_5 : decode cX4_init 5 = .ok (.bipush 8, 2) := by decide +kernel
theorem dX4_init_7 : decode cX4_init 7 = .ok (.newarray .int, 2) := by decide +kernel
theorem dX4_init_9 : decode cX4_init 9 = .ok (.putfield 9, 3) := by decide +kernel
theorem dX4_init_12 : decode cX4_init 12 = .ok (.return_, 1) := by decide +kernel
theorem dX4_compute_0 : decode cX4_compute 0 = .ok (.aload_n 1, 1) := by decide +kernel
theorem dX4_compute_1 : decode cX4_compute 1 = .ok (.invokevirtual 15, 3) := by decide +kernel
theorem dX4_compute_4 : decode cX4_compute 4 = .ok (.bipush 8, 2) := by decide +kernel
theorem dX4_compute_6 : decode cX4_compute 6 = .ok (.invokestatic 21, 3) := by decide +kernel
theorem dX4_compute_9 : decode cX4_compute 9 = .ok (.istore 4, 2) := by decide +kernel
theorem dX4_compute_11 : decode cX4_compute 11 = .ok (.iconst 0, 1) := by decide +kernel
theorem dX4_compute_12 : decode cX4_compute 12 = .ok (.istore 5, 2) := by decide +kernel
theorem dX4_compute_14 : decode cX4_compute 14 = .ok (.iload 5, 2) := by decide +kernel
theorem dX4_compute_16 : decode cX4_compute 16 = .ok (.iload 4, 2) := by decide +kernel
theorem dX4_compute_18 : decode cX4_compute 18 = .ok (.if_icmp .ge 68, 3) := by decide +kernel
theorem dX4_compute_21 : decode cX4_compute 21 = .ok (.aload_n 0, 1) := by decide +kernel
theorem dX4_compute_22 : decode cX4_compute 22 = .ok (.getfield 9, 3) := by decide +kernel
theorem dX4_compute_25 : decode cX4_compute 25 = .ok (.iload 5, 2) := by decide +kernel
theorem dX4_compute_27 : decode cX4_compute 27 = .ok (.iconst 0, 1) := by decide +kernel
theorem dX4_compute_28 : decode cX4_compute 28 = .ok (.iastore, 1) := by decide +kernel
theorem dX4_compute_29 : decode cX4_compute 29 = .ok (.aload_n 1, 1) := by decide +kernel
theorem dX4_compute_30 : decode cX4_compute 30 = .ok (.iload 5, 2) := by decide +kernel
theorem dX4_compute_32 : decode cX4_compute 32 = .ok (.invokevirtual 27, 3) := by decide +kernel
theorem dX4_compute_35 : decode cX4_compute 35 = .ok (.ifCond .eq 45, 3) := by decide +kernel
theorem dX4_compute_38 : decode cX4_compute 38 = .ok (.aload_n 0, 1) := by decide +kernel
theorem dX4_compute_39 : decode cX4_compute 39 = .ok (.iload 5, 2) := by decide +kernel
theorem dX4_compute_41 : decode cX4_compute 41 = .ok (.invokevirtual 31, 3) := by decide +kernel
theorem dX4_compute_44 : decode cX4_compute 44 = .ok (.iconst 2, 1) := by decide +kernel
theorem dX4_compute_45 : decode cX4_compute 45 = .ok (.iload_n 3, 1) := by decide +kernel
theorem dX4_compute_46 : decode cX4_compute 46 = .ok (.imul, 1) := by decide +kernel
theorem dX4_compute_47 : decode cX4_compute 47 = .ok (.aload_n 1, 1) := by decide +kernel
theorem dX4_compute_48 : decode cX4_compute 48 = .ok (.iload 5, 2) := by decide +kernel
theorem dX4_compute_50 : decode cX4_compute 50 = .ok (.invokevirtual 35, 3) := by decide +kernel
theorem dX4_compute_53 : decode cX4_compute 53 = .ok (.imul, 1) := by decide +kernel
theorem dX4_compute_54 : decode cX4_compute 54 = .ok (.iadd, 1) := by decide +kernel
theorem dX4_compute_55 : decode cX4_compute 55 = .ok (.istore 6, 2) := by decide +kernel
theorem dX4_compute_57 : decode cX4_compute 57 = .ok (.aload_n 1, 1) := by decide +kernel
theorem dX4_compute_58 : decode cX4_compute 58 = .ok (.iload 5, 2) := by decide +kernel
theorem dX4_compute_60 : decode cX4_compute 60 = .ok (.iload_n 2, 1) := by decide +kernel
theorem dX4_compute_61 : decode cX4_compute 61 = .ok (.invokevirtual 38, 3) := by decide +kernel
theorem dX4_compute_64 : decode cX4_compute 64 = .ok (.istore 7, 2) := by decide +kernel
theorem dX4_compute_66 : decode cX4_compute 66 = .ok (.aload_n 0, 1) := by decide +kernel
theorem dX4_compute_67 : decode cX4_compute 67 = .ok (.getfield 9, 3) := by decide +kernel
theorem dX4_compute_70 : decode cX4_compute 70 = .ok (.iload 5, 2) := by decide +kernel
theorem dX4_compute_72 : decode cX4_compute 72 = .ok (.iload 7, 2) := by decide +kernel
theorem dX4_compute_74 : decode cX4_compute 74 = .ok (.iload 6, 2) := by decide +kernel
theorem dX4_compute_76 : decode cX4_compute 76 = .ok (.invokestatic 21, 3) := by decide +kernel
theorem dX4_compute_79 : decode cX4_compute 79 = .ok (.iastore, 1) := by decide +kernel
theorem dX4_compute_80 : decode cX4_compute 80 = .ok (.iinc 5 1, 3) := by decide +kernel
theorem dX4_compute_83 : decode cX4_compute 83 = .ok (.goto (-69), 3) := by decide +kernel
theorem dX4_compute_86 : decode cX4_compute 86 = .ok (.iload 4, 2) := by decide +kernel
theorem dX4_compute_88 : decode cX4_compute 88 = .ok (.iconst 1, 1) := by decide +kernel
theorem dX4_compute_89 : decode cX4_compute 89 = .ok (.isub, 1) := by decide +kernel
theorem dX4_compute_90 : decode cX4_compute 90 = .ok (.istore 5, 2) := by decide +kernel
theorem dX4_compute_92 : decode cX4_compute 92 = .ok (.iload 5, 2) := by decide +kernel
theorem dX4_compute_94 : decode cX4_compute 94 = .ok (.ifCond .le 52, 3) := by decide +kernel
theorem dX4_compute_97 : decode cX4_compute 97 = .ok (.aload_n 0, 1) := by decide +kernel
theorem dX4_compute_98 : decode cX4_compute 98 = .ok (.getfield 9, 3) := by decide +kernel
theorem dX4_compute_101 : decode cX4_compute 101 = .ok (.iload 5, 2) := by decide +kernel
theorem dX4_compute_103 : decode cX4_compute 103 = .ok (.iaload, 1) := by decide +kernel
theorem dX4_compute_104 : decode cX4_compute 104 = .ok (.iconst 2, 1) := by decide +kernel
theorem dX4_compute_105 : decode cX4_compute 105 = .ok (.iload_n 3, 1) := by decide +kernel
theorem dX4_compute_106 : decode cX4_compute 106 = .ok (.imul, 1) := by decide +kernel
theorem dX4_compute_107 : decode cX4_compute 107 = .ok (.aload_n 1, 1) := by decide +kernel
theorem dX4_compute_108 : decode cX4_compute 108 = .ok (.iload 5, 2) := by decide +kernel
theorem dX4_compute_110 : decode cX4_compute 110 = .ok (.invokevirtual 35, 3) := by decide +kernel
theorem dX4_compute_113 : decode cX4_compute 113 = .ok (.imul, 1) := by decide +kernel
theorem dX4_compute_114 : decode cX4_compute 114 = .ok (.iadd, 1) := by decide +kernel
theorem dX4_compute_115 : decode cX4_compute 115 = .ok (.istore 6, 2) := by decide +kernel
theorem dX4_compute_117 : decode cX4_compute 117 = .ok (.aload_n 0, 1) := by decide +kernel
theorem dX4_compute_118 : decode cX4_compute 118 = .ok (.getfield 9, 3) := by decide +kernel
theorem dX4_compute_121 : decode cX4_compute 121 = .ok (.iload 5, 2) := by decide +kernel
theorem dX4_compute_123 : decode cX4_compute 123 = .ok (.iconst 1, 1) := by decide +kernel
theorem dX4_compute_124 : decode cX4_compute 124 = .ok (.isub, 1) := by decide +kernel
theorem dX4_compute_125 : decode cX4_compute 125 = .ok (.aload_n 0, 1) := by decide +kernel
theorem dX4_compute_126 : decode cX4_compute 126 = .ok (.getfield 9, 3) := by decide +kernel
theorem dX4_compute_129 : decode cX4_compute 129 = .ok (.iload 5, 2) := by decide +kernel
theorem dX4_compute_131 : decode cX4_compute 131 = .ok (.iconst 1, 1) := by decide +kernel
theorem dX4_compute_132 : decode cX4_compute 132 = .ok (.isub, 1) := by decide +kernel
theorem dX4_compute_133 : decode cX4_compute 133 = .ok (.iaload, 1) := by decide +kernel
theorem dX4_compute_134 : decode cX4_compute 134 = .ok (.iload 6, 2) := by decide +kernel
theorem dX4_compute_136 : decode cX4_compute 136 = .ok (.invokestatic 21, 3) := by decide +kernel
theorem dX4_compute_139 : decode cX4_compute 139 = .ok (.iastore, 1) := by decide +kernel
theorem dX4_compute_140 : decode cX4_compute 140 = .ok (.iinc 5 (-1), 3) := by decide +kernel
theorem dX4_compute_143 : decode cX4_compute 143 = .ok (.goto (-51), 3) := by decide +kernel
theorem dX4_compute_146 : decode cX4_compute 146 = .ok (.return_, 1) := by decide +kernel
theorem dX4_endAt_0 : decode cX4_endAt 0 = .ok (.iload_n 1, 1) := by decide +kernel
theorem dX4_endAt_1 : decode cX4_endAt 1 = .ok (.iconst 0, 1) := by decide +kernel
theorem dX4_endAt_2 : decode cX4_endAt 2 = .ok (.bipush 7, 2) := by decide +kernel
theorem dX4_endAt_4 : decode cX4_endAt 4 = .ok (.invokestatic 41, 3) := by decide +kernel
theorem dX4_endAt_7 : decode cX4_endAt 7 = .ok (.ifCond .eq 12, 3) := by decide +kernel
theorem dX4_endAt_10 : decode cX4_endAt 10 = .ok (.aload_n 0, 1) := by decide +kernel
theorem dX4_endAt_11 : decode cX4_endAt 11 = .ok (.getfield 9, 3) := by decide +kernel
theorem dX4_endAt_14 : decode cX4_endAt 14 = .ok (.iload_n 1, 1) := by decide +kernel
theorem dX4_endAt_15 : decode cX4_endAt 15 = .ok (.iaload, 1) := by decide +kernel
theorem dX4_endAt_16 : decode cX4_endAt 16 = .ok (.goto 4, 3) := by decide +kernel
theorem dX4_endAt_19 : decode cX4_endAt 19 = .ok (.iconst 0, 1) := by decide +kernel
theorem dX4_endAt_20 : decode cX4_endAt 20 = .ok (.ireturn, 1) := by decide +kernel
theorem dX4_beginAt_0 : decode cX4_beginAt 0 = .ok (.aload_n 0, 1) := by decide +kernel
theorem dX4_beginAt_1 : decode cX4_beginAt 1 = .ok (.iload_n 1, 1) := by decide +kernel
theorem dX4_beginAt_2 : decode cX4_beginAt 2 = .ok (.iconst 1, 1) := by decide +kernel
theorem dX4_beginAt_3 : decode cX4_beginAt 3 = .ok (.isub, 1) := by decide +kernel
theorem dX4_beginAt_4 : decode cX4_beginAt 4 = .ok (.invokevirtual 45, 3) := by decide +kernel
theorem dX4_beginAt_7 : decode cX4_beginAt 7 = .ok (.ireturn, 1) := by decide +kernel
end
section
theorem dX1_init_0 : decode cX1_init 0 = .ok (.aload_n 0, 1) := by decide +kernel
theorem dX1_init_1 : decode cX1_init 1 = .ok (.invokespecial 3, 3) := by decide +kernel
theorem dX1_init_4 : decode cX1_init 4 = .ok (.aload_n 0, 1) := by decide +kernel
theorem dX1_init_5 : decode cX1_init 5 = .ok (.bipush 8, 2) := by decide +kernel
theorem dX1_init_7 : decode cX1_init 7 = .ok (.newarray .int, 2) := by decide +kernel
theorem dX1_init_9 : decode cX1_init 9 = .ok (.putfield 9, 3) := by decide +kernel
theorem dX1_init_12 : decode cX1_init 12 = .ok (.aload_n 0, 1) := by decide +kernel
theorem dX1_init_13 : decode cX1_init 13 = .ok (.bipush 16, 2) := by decide +kernel
theorem dX1_init_15 : decode cX1_init 15 = .ok (.newarray .int, 2) := by decide +kernel
theorem dX1_init_17 : decode cX1_init 17 = .ok (.putfield 15, 3) := by decide +kernel
theorem dX1_init_20 : decode cX1_init 20 = .ok (.aload_n 0, 1) := by decide +kernel
theorem dX1_init_21 : decode cX1_init 21 = .ok (.bipush 16, 2) := by decide +kernel
theorem dX1_init_23 : decode cX1_init 23 = .ok (.newarray .int, 2) := by decide +kernel
theorem dX1_init_25 : decode cX1_init 25 = .ok (.putfield 18, 3) := by decide +kernel
theorem dX1_init_28 : decode cX1_init 28 = .ok (.aload_n 0, 1) := by decide +kernel
theorem dX1_init_29 : decode cX1_init 29 = .ok (.bipush 8, 2) := by decide +kernel
theorem dX1_init_31 : decode cX1_init 31 = .ok (.newarray .int, 2) := by decide +kernel
theorem dX1_init_33 : decode cX1_init 33 = .ok (.putfield 21, 3) := by decide +kernel
theorem dX1_init_36 : decode cX1_init 36 = .ok (.return_, 1) := by decide +kernel
theorem dX1_size_0 : decode cX1_size 0 = .ok (.aload_n 0, 1) := by decide +kernel
theorem dX1_size_1 : decode cX1_size 1 = .ok (.getfield 24, 3) := by decide +kernel
theorem dX1_size_4 : decode cX1_size 4 = .ok (.ireturn, 1) := by decide +kernel
theorem dX1_hasStroke_0 : decode cX1_hasStroke 0 = .ok (.iload_n 1, 1) := by decide +kernel
theorem dX1_hasStroke_1 : decode cX1_hasStroke 1 = .ok (.ifCond .lt 15, 3) := by decide +kernel
theorem dX1_hasStroke_4 : decode cX1_hasStroke 4 = .ok (.iload_n 1, 1) := by decide +kernel
theorem dX1_hasStroke_5 : decode cX1_hasStroke 5 = .ok (.aload_n 0, 1) := by decide +kernel
theorem dX1_hasStroke_6 : decode cX1_hasStroke 6 = .ok (.getfield 24, 3) := by decide +kernel
theorem dX1_hasStroke_9 : decode cX1_hasStroke 9 = .ok (.if_icmp .ge 7, 3) := by decide +kernel
theorem dX1_hasStroke_12 : decode cX1_hasStroke 12 = .ok (.iconst 1, 1) := by decide +kernel
theorem dX1_hasStroke_13 : decode cX1_hasStroke 13 = .ok (.goto 4, 3) := by decide +kernel
theorem dX1_hasStroke_16 : decode cX1_hasStroke 16 = .ok (.iconst 0, 1) := by decide +kernel
theorem dX1_hasStroke_17 : decode cX1_hasStroke 17 = .ok (.ireturn, 1) := by decide +kernel
theorem dX1_hasPosition_0 : decode cX1_hasPosition 0 = .ok (.iload_n 1, 1) := by decide +kernel
theorem dX1_hasPosition_1 : decode cX1_hasPosition 1 = .ok (.ifCond .lt 15, 3) := by decide +kernel
theorem dX1_hasPosition_4 : decode cX1_hasPosition 4 = .ok (.iload_n 1, 1) := by decide +kernel
theorem dX1_hasPosition_5 : decode cX1_hasPosition 5 = .ok (.aload_n 0, 1) := by decide +kernel
theorem dX1_hasPosition_6 : decode cX1_hasPosition 6 = .ok (.getfield 24, 3) := by decide +kernel
theorem dX1_hasPosition_9 : decode cX1_hasPosition 9 = .ok (.if_icmp .ge 7, 3) := by decide +kernel
theorem dX1_hasPosition_12 : decode cX1_hasPosition 12 = .ok (.iconst 1, 1) := by decide +kernel
theorem dX1_hasPosition_13 : decode cX1_hasPosition 13 = .ok (.goto 4, 3) := by decide +kernel
theorem dX1_hasPosition_16 : decode cX1_hasPosition 16 = .ok (.iconst 0, 1) := by decide +kernel
theorem dX1_hasPosition_17 : decode cX1_hasPosition 17 = .ok (.ireturn, 1) := by decide +kernel
theorem dX1_penOfStroke_0 : decode cX1_penOfStroke 0 = .ok (.aload_n 0, 1) := by decide +kernel
theorem dX1_penOfStroke_1 : decode cX1_penOfStroke 1 = .ok (.iload_n 1, 1) := by decide +kernel
theorem dX1_penOfStroke_2 : decode cX1_penOfStroke 2 = .ok (.invokevirtual 28, 3) := by decide +kernel
theorem dX1_penOfStroke_5 : decode cX1_penOfStroke 5 = .ok (.ifCond .eq 12, 3) := by decide +kernel
theorem dX1_penOfStroke_8 : decode cX1_penOfStroke 8 = .ok (.aload_n 0, 1) := by decide +kernel
theorem dX1_penOfStroke_9 : decode cX1_penOfStroke 9 = .ok (.getfield 9, 3) := by decide +kernel
theorem dX1_penOfStroke_12 : decode cX1_penOfStroke 12 = .ok (.iload_n 1, 1) := by decide +kernel
theorem dX1_penOfStroke_13 : decode cX1_penOfStroke 13 = .ok (.iaload, 1) := by decide +kernel
theorem dX1_penOfStroke_14 : decode cX1_penOfStroke 14 = .ok (.goto 4, 3) := by decide +kernel
theorem dX1_penOfStroke_17 : decode cX1_penOfStroke 17 = .ok (.iconst (-1), 1) := by decide +kernel
theorem dX1_penOfStroke_18 : decode cX1_penOfStroke 18 = .ok (.ireturn, 1) := by decide +kernel
theorem dX1_codeAt_0 : decode cX1_codeAt 0 = .ok (.aload_n 0, 1) := by decide +kernel
theorem dX1_codeAt_1 : decode cX1_codeAt 1 = .ok (.iload_n 1, 1) := by decide +kernel
theorem dX1_codeAt_2 : decode cX1_codeAt 2 = .ok (.invokevirtual 32, 3) := by decide +kernel
theorem dX1_codeAt_5 : decode cX1_codeAt 5 = .ok (.ifCond .eq 12, 3) := by decide +kernel
theorem dX1_codeAt_8 : decode cX1_codeAt 8 = .ok (.aload_n 0, 1) := by decide +kernel
theorem dX1_codeAt_9 : decode cX1_codeAt 9 = .ok (.getfield 21, 3) := by decide +kernel
theorem dX1_codeAt_12 : decode cX1_codeAt 12 = .ok (.iload_n 1, 1) := by decide +kernel
theorem dX1_codeAt_13 : decode cX1_codeAt 13 = .ok (.iaload, 1) := by decide +kernel
theorem dX1_codeAt_14 : decode cX1_codeAt 14 = .ok (.goto 4, 3) := by decide +kernel
theorem dX1_codeAt_17 : decode cX1_codeAt 17 = .ok (.iconst (-1), 1) := by decide +kernel
theorem dX1_codeAt_18 : decode cX1_codeAt 18 = .ok (.ireturn, 1) := by decide +kernel
theorem dX1_setCode_0 : decode cX1_setCode 0 = .ok (.aload_n 0, 1) := by decide +kernel
theorem dX1_setCode_1 : decode cX1_setCode 1 = .ok (.iload_n 1, 1) := by decide +kernel
theorem dX1_setCode_2 : decode cX1_setCode 2 = .ok (.invokevirtual 32, 3) := by decide +kernel
theorem dX1_setCode_5 : decode cX1_setCode 5 = .ok (.ifCond .eq 18, 3) := by decide +kernel
theorem dX1_setCode_8 : decode cX1_setCode 8 = .ok (.aload_n 0, 1) := by decide +kernel
theorem dX1_setCode_9 : decode cX1_setCode 9 = .ok (.iload_n 2, 1) := by decide +kernel
theorem dX1_setCode_10 : decode cX1_setCode 10 = .ok (.invokevirtual 35, 3) := by decide +kernel
theorem dX1_setCode_13 : decode cX1_setCode 13 = .ok (.ifCond .eq 10, 3) := by decide +kernel
theorem dX1_setCode_16 : decode cX1_setCode 16 = .ok (.aload_n 0, 1) := by decide +kernel
theorem dX1_setCode_17 : decode cX1_setCode 17 = .ok (.getfield 21, 3) := by decide +kernel
theorem dX1_setCode_20 : decode cX1_setCode 20 = .ok (.iload_n 1, 1) := by decide +kernel
theorem dX1_setCode_21 : decode cX1_setCode 21 = .ok (.iload_n 2, 1) := by decide +kernel
theorem dX1_setCode_22 : decode cX1_setCode 22 = .ok (.iastore, 1) := by decide +kernel
theorem dX1_setCode_23 : decode cX1_setCode 23 = .ok (.return_, 1) := by decide +kernel
theorem dX1_copyFrom_0 : decode cX1_copyFrom 0 = .ok (.aload_n 0, 1) := by decide +kernel
theorem dX1_copyFrom_1 : decode cX1_copyFrom 1 = .ok (.aload_n 1, 1) := by decide +kernel
theorem dX1_copyFrom_2 : decode cX1_copyFrom 2 = .ok (.getfield 24, 3) := by decide +kernel
theorem dX1_copyFrom_5 : decode cX1_copyFrom 5 = .ok (.putfield 24, 3) := by decide +kernel
theorem dX1_copyFrom_8 : decode cX1_copyFrom 8 = .ok (.aload_n 1, 1) := by decide +kernel
theorem dX1_copyFrom_9 : decode cX1_copyFrom 9 = .ok (.getfield 9, 3) := by decide +kernel
theorem dX1_copyFrom_12 : decode cX1_copyFrom 12 = .ok (.iconst 0, 1) := by decide +kernel
theorem dX1_copyFrom_13 : decode cX1_copyFrom 13 = .ok (.aload_n 0, 1) := by decide +kernel
theorem dX1_copyFrom_14 : decode cX1_copyFrom 14 = .ok (.getfield 9, 3) := by decide +kernel
theorem dX1_copyFrom_17 : decode cX1_copyFrom 17 = .ok (.iconst 0, 1) := by decide +kernel
theorem dX1_copyFrom_18 : decode cX1_copyFrom 18 = .ok (.bipush 8, 2) := by decide +kernel
theorem dX1_copyFrom_20 : decode cX1_copyFrom 20 = .ok (.invokestatic 38, 3) := by decide +kernel
theorem dX1_copyFrom_23 : decode cX1_copyFrom 23 = .ok (.aload_n 1, 1) := by decide +kernel
theorem dX1_copyFrom_24 : decode cX1_copyFrom 24 = .ok (.getfield 15, 3) := by decide +kernel
theorem dX1_copyFrom_27 : decode cX1_copyFrom 27 = .ok (.iconst 0, 1) := by decide +kernel
theorem dX1_copyFrom_28 : decode cX1_copyFrom 28 = .ok (.aload_n 0, 1) := by decide +kernel
theorem dX1_copyFrom_29 : decode cX1_copyFrom 29 = .ok (.getfield 15, 3) := by decide +kernel
theorem dX1_copyFrom_32 : decode cX1_copyFrom 32 = .ok (.iconst 0, 1) := by decide +kernel
theorem dX1_copyFrom_33 : decode cX1_copyFrom 33 = .ok (.bipush 16, 2) := by decide +kernel
theorem dX1_copyFrom_35 : decode cX1_copyFrom 35 = .ok (.invokestatic 38, 3) := by decide +kernel
theorem dX1_copyFrom_38 : decode cX1_copyFrom 38 = .ok (.aload_n 1, 1) := by decide +kernel
theorem dX1_copyFrom_39 : decode cX1_copyFrom 39 = .ok (.getfield 18, 3) := by decide +kernel
theorem dX1_copyFrom_42 : decode cX1_copyFrom 42 = .ok (.iconst 0, 1) := by decide +kernel
theorem dX1_copyFrom_43 : decode cX1_copyFrom 43 = .ok (.aload_n 0, 1) := by decide +kernel
theorem dX1_copyFrom_44 : decode cX1_copyFrom 44 = .ok (.getfield 18, 3) := by decide +kernel
theorem dX1_copyFrom_47 : decode cX1_copyFrom 47 = .ok (.iconst 0, 1) := by decide +kernel
theorem dX1_copyFrom_48 : decode cX1_copyFrom 48 = .ok (.bipush 16, 2) := by decide +kernel
theorem dX1_copyFrom_50 : decode cX1_copyFrom 50 = .ok (.invokestatic 38, 3) := by decide +kernel
theorem dX1_copyFrom_53 : decode cX1_copyFrom 53 = .ok (.aload_n 1, 1) := by decide +kernel
theorem dX1_copyFrom_54 : decode cX1_copyFrom 54 = .ok (.getfield 21, 3) := by decide +kernel
theorem dX1_copyFrom_57 : decode cX1_copyFrom 57 = .ok (.iconst 0, 1) := by decide +kernel
theorem dX1_copyFrom_58 : decode cX1_copyFrom 58 = .ok (.aload_n 0, 1) := by decide +kernel
theorem dX1_copyFrom_59 : decode cX1_copyFrom 59 = .ok (.getfield 21, 3) := by decide +kernel
theorem dX1_copyFrom_62 : decode cX1_copyFrom 62 = .ok (.iconst 0, 1) := by decide +kernel
theorem dX1_copyFrom_63 : decode cX1_copyFrom 63 = .ok (.bipush 8, 2) := by decide +kernel
theorem dX1_copyFrom_65 : decode cX1_copyFrom 65 = .ok (.invokestatic 38, 3) := by decide +kernel
theorem dX1_copyFrom_68 : decode cX1_copyFrom 68 = .ok (.return_, 1) := by decide +kernel
theorem dX1_append_0 : decode cX1_append 0 = .ok (.aload_n 0, 1) := by decide +kernel
theorem dX1_append_1 : decode cX1_append 1 = .ok (.getfield 24, 3) := by decide +kernel
theorem dX1_append_4 : decode cX1_append 4 = .ok (.ifCond .lt 12, 3) := by decide +kernel
theorem dX1_append_7 : decode cX1_append 7 = .ok (.aload_n 0, 1) := by decide +kernel
theorem dX1_append_8 : decode cX1_append 8 = .ok (.getfield 24, 3) := by decide +kernel
theorem dX1_append_11 : decode cX1_append 11 = .ok (.bipush 8, 2) := by decide +kernel
theorem dX1_append_13 : decode cX1_append 13 = .ok (.if_icmp .lt 6, 3) := by decide +kernel
theorem dX1_append_16 : decode cX1_append 16 = .ok (.bipush (-2), 2) := by decide +kernel
theorem dX1_append_18 : decode cX1_append 18 = .ok (.ireturn, 1) := by decide +kernel
theorem dX1_append_19 : decode cX1_append 19 = .ok (.aload_n 0, 1) := by decide +kernel
theorem dX1_append_20 : decode cX1_append 20 = .ok (.getfield 24, 3) := by decide +kernel
theorem dX1_append_23 : decode cX1_append 23 = .ok (.istore 6, 2) := by decide +kernel
theorem dX1_append_25 : decode cX1_append 25 = .ok (.aload_n 0, 1) := by decide +kernel
theorem dX1_append_26 : decode cX1_append 26 = .ok (.getfield 9, 3) := by decide +kernel
theorem dX1_append_29 : decode cX1_append 29 = .ok (.iload 6, 2) := by decide +kernel
theorem dX1_append_31 : decode cX1_append 31 = .ok (.iload 5, 2) := by decide +kernel
theorem dX1_append_33 : decode cX1_append 33 = .ok (.iastore, 1) := by decide +kernel
theorem dX1_append_34 : decode cX1_append 34 = .ok (.aload_n 0, 1) := by decide +kernel
theorem dX1_append_35 : decode cX1_append 35 = .ok (.getfield 15, 3) := by decide +kernel
theorem dX1_append_38 : decode cX1_append 38 = .ok (.iconst 2, 1) := by decide +kernel
theorem dX1_append_39 : decode cX1_append 39 = .ok (.iload 6, 2) := by decide +kernel
theorem dX1_append_41 : decode cX1_append 41 = .ok (.imul, 1) := by decide +kernel
theorem dX1_append_42 : decode cX1_append 42 = .ok (.iload_n 1, 1) := by decide +kernel
theorem dX1_append_43 : decode cX1_append 43 = .ok (.iastore, 1) := by decide +kernel
theorem dX1_append_44 : decode cX1_append 44 = .ok (.aload_n 0, 1) := by decide +kernel
theorem dX1_append_45 : decode cX1_append 45 = .ok (.getfield 18, 3) := by decide +kernel
theorem dX1_append_48 : decode cX1_append 48 = .ok (.iconst 2, 1) := by decide +kernel
theorem dX1_append_49 : decode cX1_append 49 = .ok (.iload 6, 2) := by decide +kernel
theorem dX1_append_51 : decode cX1_append 51 = .ok (.imul, 1) := by decide +kernel
theorem dX1_append_52 : decode cX1_append 52 = .ok (.iload_n 2, 1) := by decide +kernel
theorem dX1_append_53 : decode cX1_append 53 = .ok (.iastore, 1) := by decide +kernel
theorem dX1_append_54 : decode cX1_append 54 = .ok (.aload_n 0, 1) := by decide +kernel
theorem dX1_append_55 : decode cX1_append 55 = .ok (.getfield 15, 3) := by decide +kernel
theorem dX1_append_58 : decode cX1_append 58 = .ok (.iconst 2, 1) := by decide +kernel
theorem dX1_append_59 : decode cX1_append 59 = .ok (.iload 6, 2) := by decide +kernel
theorem dX1_append_61 : decode cX1_append 61 = .ok (.imul, 1) := by decide +kernel
theorem dX1_append_62 : decode cX1_append 62 = .ok (.iconst 1, 1) := by decide +kernel
theorem dX1_append_63 : decode cX1_append 63 = .ok (.iadd, 1) := by decide +kernel
theorem dX1_append_64 : decode cX1_append 64 = .ok (.iload_n 3, 1) := by decide +kernel
theorem dX1_append_65 : decode cX1_append 65 = .ok (.iastore, 1) := by decide +kernel
theorem dX1_append_66 : decode cX1_append 66 = .ok (.aload_n 0, 1) := by decide +kernel
theorem dX1_append_67 : decode cX1_append 67 = .ok (.getfield 18, 3) := by decide +kernel
theorem dX1_append_70 : decode cX1_append 70 = .ok (.iconst 2, 1) := by decide +kernel
theorem dX1_append_71 : decode cX1_append 71 = .ok (.iload 6, 2) := by decide +kernel
theorem dX1_append_73 : decode cX1_append 73 = .ok (.imul, 1) := by decide +kernel
theorem dX1_append_74 : decode cX1_append 74 = .ok (.iconst 1, 1) := by decide +kernel
theorem dX1_append_75 : decode cX1_append 75 = .ok (.iadd, 1) := by decide +kernel
theorem dX1_append_76 : decode cX1_append 76 = .ok (.iload 4, 2) := by decide +kernel
theorem dX1_append_78 : decode cX1_append 78 = .ok (.iastore, 1) := by decide +kernel
theorem dX1_append_79 : decode cX1_append 79 = .ok (.aload_n 0, 1) := by decide +kernel
theorem dX1_append_80 : decode cX1_append 80 = .ok (.getfield 21, 3) := by decide +kernel
theorem dX1_append_83 : decode cX1_append 83 = .ok (.iload 6, 2) := by decide +kernel
theorem dX1_append_85 : decode cX1_append 85 = .ok (.iconst 2, 1) := by decide +kernel
theorem dX1_append_86 : decode cX1_append 86 = .ok (.iload 6, 2) := by decide +kernel
theorem dX1_append_88 : decode cX1_append 88 = .ok (.imul, 1) := by decide +kernel
theorem dX1_append_89 : decode cX1_append 89 = .ok (.iastore, 1) := by decide +kernel
theorem dX1_append_90 : decode cX1_append 90 = .ok (.aload_n 0, 1) := by decide +kernel
theorem dX1_append_91 : decode cX1_append 91 = .ok (.dup, 1) := by decide +kernel
theorem dX1_append_92 : decode cX1_append 92 = .ok (.getfield 24, 3) := by decide +kernel
theorem dX1_append_95 : decode cX1_append 95 = .ok (.iconst 1, 1) := by decide +kernel
theorem dX1_append_96 : decode cX1_append 96 = .ok (.iadd, 1) := by decide +kernel
theorem dX1_append_97 : decode cX1_append 97 = .ok (.putfield 24, 3) := by decide +kernel
theorem dX1_append_100 : decode cX1_append 100 = .ok (.iload 6, 2) := by decide +kernel
theorem dX1_append_102 : decode cX1_append 102 = .ok (.ireturn, 1) := by decide +kernel
theorem dX1_drop_0 : decode cX1_drop 0 = .ok (.aload_n 0, 1) := by decide +kernel
theorem dX1_drop_1 : decode cX1_drop 1 = .ok (.iload_n 1, 1) := by decide +kernel
theorem dX1_drop_2 : decode cX1_drop 2 = .ok (.invokevirtual 28, 3) := by decide +kernel
theorem dX1_drop_5 : decode cX1_drop 5 = .ok (.ifCond .ne 4, 3) := by decide +kernel
theorem dX1_drop_8 : decode cX1_drop 8 = .ok (.return_, 1) := by decide +kernel
theorem dX1_drop_9 : decode cX1_drop 9 = .ok (.aload_n 0, 1) := by decide +kernel
theorem dX1_drop_10 : decode cX1_drop 10 = .ok (.iload_n 1, 1) := by decide +kernel
theorem dX1_drop_11 : decode cX1_drop 11 = .ok (.invokevirtual 44, 3) := by decide +kernel
theorem dX1_drop_14 : decode cX1_drop 14 = .ok (.iload_n 1, 1) := by decide +kernel
theorem dX1_drop_15 : decode cX1_drop 15 = .ok (.iconst 1, 1) := by decide +kernel
theorem dX1_drop_16 : decode cX1_drop 16 = .ok (.iadd, 1) := by decide +kernel
theorem dX1_drop_17 : decode cX1_drop 17 = .ok (.istore_n 2, 1) := by decide +kernel
theorem dX1_drop_18 : decode cX1_drop 18 = .ok (.iload_n 2, 1) := by decide +kernel
theorem dX1_drop_19 : decode cX1_drop 19 = .ok (.aload_n 0, 1) := by decide +kernel
theorem dX1_drop_20 : decode cX1_drop 20 = .ok (.getfield 24, 3) := by decide +kernel
theorem dX1_drop_23 : decode cX1_drop 23 = .ok (.if_icmp .ge 23, 3) := by decide +kernel
theorem dX1_drop_26 : decode cX1_drop 26 = .ok (.aload_n 0, 1) := by decide +kernel
theorem dX1_drop_27 : decode cX1_drop 27 = .ok (.getfield 9, 3) := by decide +kernel
theorem dX1_drop_30 : decode cX1_drop 30 = .ok (.iload_n 2, 1) := by decide +kernel
theorem dX1_drop_31 : decode cX1_drop 31 = .ok (.iconst 1, 1) := by decide +kernel
theorem dX1_drop_32 : decode cX1_drop 32 = .ok (.isub, 1) := by decide +kernel
theorem dX1_drop_33 : decode cX1_drop 33 = .ok (.aload_n 0, 1) := by decide +kernel
theorem dX1_drop_34 : decode cX1_drop 34 = .ok (.getfield 9, 3) := by decide +kernel
theorem dX1_drop_37 : decode cX1_drop 37 = .ok (.iload_n 2, 1) := by decide +kernel
theorem dX1_drop_38 : decode cX1_drop 38 = .ok (.iaload, 1) := by decide +kernel
theorem dX1_drop_39 : decode cX1_drop 39 = .ok (.iastore, 1) := by decide +kernel
theorem dX1_drop_40 : decode cX1_drop 40 = .ok (.iinc 2 1, 3) := by decide +kernel
theorem dX1_drop_43 : decode cX1_drop 43 = .ok (.goto (-25), 3) := by decide +kernel
theorem dX1_drop_46 : decode cX1_drop 46 = .ok (.iconst 2, 1) := by decide +kernel
theorem dX1_drop_47 : decode cX1_drop 47 = .ok (.iload_n 1, 1) := by decide +kernel
theorem dX1_drop_48 : decode cX1_drop 48 = .ok (.imul, 1) := by decide +kernel
theorem dX1_drop_49 : decode cX1_drop 49 = .ok (.iconst 2, 1) := by decide +kernel
theorem dX1_drop_50 : decode cX1_drop 50 = .ok (.iadd, 1) := by decide +kernel
theorem dX1_drop_51 : decode cX1_drop 51 = .ok (.istore_n 2, 1) := by decide +kernel
theorem dX1_drop_52 : decode cX1_drop 52 = .ok (.iload_n 2, 1) := by decide +kernel
theorem dX1_drop_53 : decode cX1_drop 53 = .ok (.iconst 2, 1) := by decide +kernel
theorem dX1_drop_54 : decode cX1_drop 54 = .ok (.aload_n 0, 1) := by decide +kernel
theorem dX1_drop_55 : decode cX1_drop 55 = .ok (.getfield 24, 3) := by decide +kernel
theorem dX1_drop_58 : decode cX1_drop 58 = .ok (.imul, 1) := by decide +kernel
theorem dX1_drop_59 : decode cX1_drop 59 = .ok (.if_icmp .ge 37, 3) := by decide +kernel
theorem dX1_drop_62 : decode cX1_drop 62 = .ok (.aload_n 0, 1) := by decide +kernel
theorem dX1_drop_63 : decode cX1_drop 63 = .ok (.getfield 15, 3) := by decide +kernel
theorem dX1_drop_66 : decode cX1_drop 66 = .ok (.iload_n 2, 1) := by decide +kernel
theorem dX1_drop_67 : decode cX1_drop 67 = .ok (.iconst 2, 1) := by decide +kernel
theorem dX1_drop_68 : decode cX1_drop 68 = .ok (.isub, 1) := by decide +kernel
theorem dX1_drop_69 : decode cX1_drop 69 = .ok (.aload_n 0, 1) := by decide +kernel
theorem dX1_drop_70 : decode cX1_drop 70 = .ok (.getfield 15, 3) := by decide +kernel
theorem dX1_drop_73 : decode cX1_drop 73 = .ok (.iload_n 2, 1) := by decide +kernel
theorem dX1_drop_74 : decode cX1_drop 74 = .ok (.iaload, 1) := by decide +kernel
theorem dX1_drop_75 : decode cX1_drop 75 = .ok (.iastore, 1) := by decide +kernel
theorem dX1_drop_76 : decode cX1_drop 76 = .ok (.aload_n 0, 1) := by decide +kernel
theorem dX1_drop_77 : decode cX1_drop 77 = .ok (.getfield 18, 3) := by decide +kernel
theorem dX1_drop_80 : decode cX1_drop 80 = .ok (.iload_n 2, 1) := by decide +kernel
theorem dX1_drop_81 : decode cX1_drop 81 = .ok (.iconst 2, 1) := by decide +kernel
theorem dX1_drop_82 : decode cX1_drop 82 = .ok (.isub, 1) := by decide +kernel
theorem dX1_drop_83 : decode cX1_drop 83 = .ok (.aload_n 0, 1) := by decide +kernel
theorem dX1_drop_84 : decode cX1_drop 84 = .ok (.getfield 18, 3) := by decide +kernel
theorem dX1_drop_87 : decode cX1_drop 87 = .ok (.iload_n 2, 1) := by decide +kernel
theorem dX1_drop_88 : decode cX1_drop 88 = .ok (.iaload, 1) := by decide +kernel
theorem dX1_drop_89 : decode cX1_drop 89 = .ok (.iastore, 1) := by decide +kernel
theorem dX1_drop_90 : decode cX1_drop 90 = .ok (.iinc 2 1, 3) := by decide +kernel
theorem dX1_drop_93 : decode cX1_drop 93 = .ok (.goto (-41), 3) := by decide +kernel
theorem dX1_drop_96 : decode cX1_drop 96 = .ok (.aload_n 0, 1) := by decide +kernel
theorem dX1_drop_97 : decode cX1_drop 97 = .ok (.dup, 1) := by decide +kernel
theorem dX1_drop_98 : decode cX1_drop 98 = .ok (.getfield 24, 3) := by decide +kernel
theorem dX1_drop_101 : decode cX1_drop 101 = .ok (.iconst 1, 1) := by decide +kernel
theorem dX1_drop_102 : decode cX1_drop 102 = .ok (.isub, 1) := by decide +kernel
theorem dX1_drop_103 : decode cX1_drop 103 = .ok (.putfield 24, 3) := by decide +kernel
theorem dX1_drop_106 : decode cX1_drop 106 = .ok (.return_, 1) := by decide +kernel
theorem dX1_dropFromPlan_0 : decode cX1_dropFromPlan 0 = .ok (.iconst 0, 1) := by decide +kernel
theorem dX1_dropFromPlan_1 : decode cX1_dropFromPlan 1 = .ok (.istore_n 2, 1) := by decide +kernel
theorem dX1_dropFromPlan_2 : decode cX1_dropFromPlan 2 = .ok (.iconst 0, 1) := by decide +kernel
theorem dX1_dropFromPlan_3 : decode cX1_dropFromPlan 3 = .ok (.istore_n 3, 1) := by decide +kernel
theorem dX1_dropFromPlan_4 : decode cX1_dropFromPlan 4 = .ok (.iload_n 3, 1) := by decide +kernel
theorem dX1_dropFromPlan_5 : decode cX1_dropFromPlan 5 = .ok (.aload_n 0, 1) := by decide +kernel
theorem dX1_dropFromPlan_6 : decode cX1_dropFromPlan 6 = .ok (.getfield 24, 3) := by decide +kernel
theorem dX1_dropFromPlan_9 : decode cX1_dropFromPlan 9 = .ok (.if_icmp .ge 51, 3) := by decide +kernel
theorem dX1_dropFromPlan_12 : decode cX1_dropFromPlan 12 = .ok (.aload_n 0, 1) := by decide +kernel
theorem dX1_dropFromPlan_13 : decode cX1_dropFromPlan 13 = .ok (.getfield 21, 3) := by decide +kernel
theorem dX1_dropFromPlan_16 : decode cX1_dropFromPlan 16 = .ok (.iload_n 3, 1) := by decide +kernel
theorem dX1_dropFromPlan_17 : decode cX1_dropFromPlan 17 = .ok (.iaload, 1) := by decide +kernel
theorem dX1_dropFromPlan_18 : decode cX1_dropFromPlan 18 = .ok (.istore 4, 2) := by decide +kernel
theorem dX1_dropFromPlan_20 : decode cX1_dropFromPlan 20 = .ok (.iload 4, 2) := by decide +kernel
theorem dX1_dropFromPlan_22 : decode cX1_dropFromPlan 22 = .ok (.iconst 2, 1) := by decide +kernel
theorem dX1_dropFromPlan_23 : decode cX1_dropFromPlan 23 = .ok (.idiv, 1) := by decide +kernel
theorem dX1_dropFromPlan_24 : decode cX1_dropFromPlan 24 = .ok (.iload_n 1, 1) := by decide +kernel
theorem dX1_dropFromPlan_25 : decode cX1_dropFromPlan 25 = .ok (.if_icmp .eq 29, 3) := by decide +kernel
theorem dX1_dropFromPlan_28 : decode cX1_dropFromPlan 28 = .ok (.aload_n 0, 1) := by decide +kernel
theorem dX1_dropFromPlan_29 : decode cX1_dropFromPlan 29 = .ok (.getfield 21, 3) := by decide +kernel
theorem dX1_dropFromPlan_32 : decode cX1_dropFromPlan 32 = .ok (.iload_n 2, 1) := by decide +kernel
theorem dX1_dropFromPlan_33 : decode cX1_dropFromPlan 33 = .ok (.iload 4, 2) := by decide +kernel
theorem dX1_dropFromPlan_35 : decode cX1_dropFromPlan 35 = .ok (.iconst 2, 1) := by decide +kernel
theorem dX1_dropFromPlan_36 : decode cX1_dropFromPlan 36 = .ok (.idiv, 1) := by decide +kernel
theorem dX1_dropFromPlan_37 : decode cX1_dropFromPlan 37 = .ok (.iload_n 1, 1) := by decide +kernel
theorem dX1_dropFromPlan_38 : decode cX1_dropFromPlan 38 = .ok (.if_icmp .le 10, 3) := by decide +kernel
theorem dX1_dropFromPlan_41 : decode cX1_dropFromPlan 41 = .ok (.iload 4, 2) := by decide +kernel
theorem dX1_dropFromPlan_43 : decode cX1_dropFromPlan 43 = .ok (.iconst 2, 1) := by decide +kernel
theorem dX1_dropFromPlan_44 : decode cX1_dropFromPlan 44 = .ok (.isub, 1) := by decide +kernel
theorem dX1_dropFromPlan_45 : decode cX1_dropFromPlan 45 = .ok (.goto 5, 3) := by decide +kernel
theorem dX1_dropFromPlan_48 : decode cX1_dropFromPlan 48 = .ok (.iload 4, 2) := by decide +kernel
theorem dX1_dropFromPlan_50 : decode cX1_dropFromPlan 50 = .ok (.iastore, 1) := by decide +kernel
theorem dX1_dropFromPlan_51 : decode cX1_dropFromPlan 51 = .ok (.iinc 2 1, 3) := by decide +kernel
theorem dX1_dropFromPlan_54 : decode cX1_dropFromPlan 54 = .ok (.iinc 3 1, 3) := by decide +kernel
theorem dX1_dropFromPlan_57 : decode cX1_dropFromPlan 57 = .ok (.goto (-53), 3) := by decide +kernel
theorem dX1_dropFromPlan_60 : decode cX1_dropFromPlan 60 = .ok (.return_, 1) := by decide +kernel
theorem dX1_dropDuplicates_0 : decode cX1_dropDuplicates 0 = .ok (.iconst 0, 1) := by decide +kernel
theorem dX1_dropDuplicates_1 : decode cX1_dropDuplicates 1 = .ok (.istore_n 1, 1) := by decide +kernel
theorem dX1_dropDuplicates_2 : decode cX1_dropDuplicates 2 = .ok (.aload_n 0, 1) := by decide +kernel
theorem dX1_dropDuplicates_3 : decode cX1_dropDuplicates 3 = .ok (.getfield 24, 3) := by decide +kernel
theorem dX1_dropDuplicates_6 : decode cX1_dropDuplicates 6 = .ok (.iconst 1, 1) := by decide +kernel
theorem dX1_dropDuplicates_7 : decode cX1_dropDuplicates 7 = .ok (.isub, 1) := by decide +kernel
theorem dX1_dropDuplicates_8 : decode cX1_dropDuplicates 8 = .ok (.istore_n 2, 1) := by decide +kernel
theorem dX1_dropDuplicates_9 : decode cX1_dropDuplicates 9 = .ok (.iload_n 2, 1) := by decide +kernel
theorem dX1_dropDuplicates_10 : decode cX1_dropDuplicates 10 = .ok (.ifCond .le 32, 3) := by decide +kernel
theorem dX1_dropDuplicates_13 : decode cX1_dropDuplicates 13 = .ok (.aload_n 0, 1) := by decide +kernel
theorem dX1_dropDuplicates_14 : decode cX1_dropDuplicates 14 = .ok (.iload_n 2, 1) := by decide +kernel
theorem dX1_dropDuplicates_15 : decode cX1_dropDuplicates 15 = .ok (.invokevirtual 48, 3) := by decide +kernel
theorem dX1_dropDuplicates_18 : decode cX1_dropDuplicates 18 = .ok (.istore_n 3, 1) := by decide +kernel
theorem dX1_dropDuplicates_19 : decode cX1_dropDuplicates 19 = .ok (.iload_n 3, 1) := by decide +kernel
theorem dX1_dropDuplicates_20 : decode cX1_dropDuplicates 20 = .ok (.ifCond .lt 16, 3) := by decide +kernel
theorem dX1_dropDuplicates_23 : decode cX1_dropDuplicates 23 = .ok (.iload_n 3, 1) := by decide +kernel
theorem dX1_dropDuplicates_24 : decode cX1_dropDuplicates 24 = .ok (.iload_n 2, 1) := by decide +kernel
theorem dX1_dropDuplicates_25 : decode cX1_dropDuplicates 25 = .ok (.if_icmp .ge 11, 3) := by decide +kernel
theorem dX1_dropDuplicates_28 : decode cX1_dropDuplicates 28 = .ok (.aload_n 0, 1) := by decide +kernel
theorem dX1_dropDuplicates_29 : decode cX1_dropDuplicates 29 = .ok (.iload_n 2, 1) := by decide +kernel
theorem dX1_dropDuplicates_30 : decode cX1_dropDuplicates 30 = .ok (.invokevirtual 52, 3) := by decide +kernel
theorem dX1_dropDuplicates_33 : decode cX1_dropDuplicates 33 = .ok (.iinc 1 1, 3) := by decide +kernel
theorem dX1_dropDuplicates_36 : decode cX1_dropDuplicates 36 = .ok (.iinc 2 (-1), 3) := by decide +kernel
theorem dX1_dropDuplicates_39 : decode cX1_dropDuplicates 39 = .ok (.goto (-30), 3) := by decide +kernel
theorem dX1_dropDuplicates_42 : decode cX1_dropDuplicates 42 = .ok (.iload_n 1, 1) := by decide +kernel
theorem dX1_dropDuplicates_43 : decode cX1_dropDuplicates 43 = .ok (.ireturn, 1) := by decide +kernel
theorem dX1_move_0 : decode cX1_move 0 = .ok (.aload_n 0, 1) := by decide +kernel
theorem dX1_move_1 : decode cX1_move 1 = .ok (.iload_n 1, 1) := by decide +kernel
theorem dX1_move_2 : decode cX1_move 2 = .ok (.invokevirtual 32, 3) := by decide +kernel
theorem dX1_move_5 : decode cX1_move 5 = .ok (.ifCond .eq 11, 3) := by decide +kernel
theorem dX1_move_8 : decode cX1_move 8 = .ok (.aload_n 0, 1) := by decide +kernel
theorem dX1_move_9 : decode cX1_move 9 = .ok (.iload_n 2, 1) := by decide +kernel
theorem dX1_move_10 : decode cX1_move 10 = .ok (.invokevirtual 32, 3) := by decide +kernel
theorem dX1_move_13 : decode cX1_move 13 = .ok (.ifCond .ne 4, 3) := by decide +kernel
theorem dX1_move_16 : decode cX1_move 16 = .ok (.return_, 1) := by decide +kernel
theorem dX1_move_17 : decode cX1_move 17 = .ok (.aload_n 0, 1) := by decide +kernel
theorem dX1_move_18 : decode cX1_move 18 = .ok (.getfield 21, 3) := by decide +kernel
theorem dX1_move_21 : decode cX1_move 21 = .ok (.iload_n 1, 1) := by decide +kernel
theorem dX1_move_22 : decode cX1_move 22 = .ok (.iaload, 1) := by decide +kernel
theorem dX1_move_23 : decode cX1_move 23 = .ok (.istore_n 3, 1) := by decide +kernel
theorem dX1_move_24 : decode cX1_move 24 = .ok (.iload_n 1, 1) := by decide +kernel
theorem dX1_move_25 : decode cX1_move 25 = .ok (.istore 4, 2) := by decide +kernel
theorem dX1_move_27 : decode cX1_move 27 = .ok (.iload 4, 2) := by decide +kernel
theorem dX1_move_29 : decode cX1_move 29 = .ok (.iload_n 2, 1) := by decide +kernel
theorem dX1_move_30 : decode cX1_move 30 = .ok (.if_icmp .ge 25, 3) := by decide +kernel
theorem dX1_move_33 : decode cX1_move 33 = .ok (.aload_n 0, 1) := by decide +kernel
theorem dX1_move_34 : decode cX1_move 34 = .ok (.getfield 21, 3) := by decide +kernel
theorem dX1_move_37 : decode cX1_move 37 = .ok (.iload 4, 2) := by decide +kernel
theorem dX1_move_39 : decode cX1_move 39 = .ok (.aload_n 0, 1) := by decide +kernel
theorem dX1_move_40 : decode cX1_move 40 = .ok (.getfield 21, 3) := by decide +kernel
theorem dX1_move_43 : decode cX1_move 43 = .ok (.iload 4, 2) := by decide +kernel
theorem dX1_move_45 : decode cX1_move 45 = .ok (.iconst 1, 1) := by decide +kernel
theorem dX1_move_46 : decode cX1_move 46 = .ok (.iadd, 1) := by decide +kernel
theorem dX1_move_47 : decode cX1_move 47 = .ok (.iaload, 1) := by decide +kernel
theorem dX1_move_48 : decode cX1_move 48 = .ok (.iastore, 1) := by decide +kernel
theorem dX1_move_49 : decode cX1_move 49 = .ok (.iinc 4 1, 3) := by decide +kernel
theorem dX1_move_52 : decode cX1_move 52 = .ok (.goto (-25), 3) := by decide +kernel
theorem dX1_move_55 : decode cX1_move 55 = .ok (.iload_n 1, 1) := by decide +kernel
theorem dX1_move_56 : decode cX1_move 56 = .ok (.istore 4, 2) := by decide +kernel
theorem dX1_move_58 : decode cX1_move 58 = .ok (.iload 4, 2) := by decide +kernel
theorem dX1_move_60 : decode cX1_move 60 = .ok (.iload_n 2, 1) := by decide +kernel
theorem dX1_move_61 : decode cX1_move 61 = .ok (.if_icmp .le 25, 3) := by decide +kernel
theorem dX1_move_64 : decode cX1_move 64 = .ok (.aload_n 0, 1) := by decide +kernel
theorem dX1_move_65 : decode cX1_move 65 = .ok (.getfield 21, 3) := by decide +kernel
theorem dX1_move_68 : decode cX1_move 68 = .ok (.iload 4, 2) := by decide +kernel
theorem dX1_move_70 : decode cX1_move 70 = .ok (.aload_n 0, 1) := by decide +kernel
theorem dX1_move_71 : decode cX1_move 71 = .ok (.getfield 21, 3) := by decide +kernel
theorem dX1_move_74 : decode cX1_move 74 = .ok (.iload 4, 2) := by decide +kernel
theorem dX1_move_76 : decode cX1_move 76 = .ok (.iconst 1, 1) := by decide +kernel
theorem dX1_move_77 : decode cX1_move 77 = .ok (.isub, 1) := by decide +kernel
theorem dX1_move_78 : decode cX1_move 78 = .ok (.iaload, 1) := by decide +kernel
theorem dX1_move_79 : decode cX1_move 79 = .ok (.iastore, 1) := by decide +kernel
theorem dX1_move_80 : decode cX1_move 80 = .ok (.iinc 4 (-1), 3) := by decide +kernel
theorem dX1_move_83 : decode cX1_move 83 = .ok (.goto (-25), 3) := by decide +kernel
theorem dX1_move_86 : decode cX1_move 86 = .ok (.aload_n 0, 1) := by decide +kernel
theorem dX1_move_87 : decode cX1_move 87 = .ok (.getfield 21, 3) := by decide +kernel
theorem dX1_move_90 : decode cX1_move 90 = .ok (.iload_n 2, 1) := by decide +kernel
theorem dX1_move_91 : decode cX1_move 91 = .ok (.iload_n 3, 1) := by decide +kernel
theorem dX1_move_92 : decode cX1_move 92 = .ok (.iastore, 1) := by decide +kernel
theorem dX1_move_93 : decode cX1_move 93 = .ok (.return_, 1) := by decide +kernel
theorem dX1_turn_0 : decode cX1_turn 0 = .ok (.aload_n 0, 1) := by decide +kernel
theorem dX1_turn_1 : decode cX1_turn 1 = .ok (.iload_n 1, 1) := by decide +kernel
theorem dX1_turn_2 : decode cX1_turn 2 = .ok (.invokevirtual 32, 3) := by decide +kernel
theorem dX1_turn_5 : decode cX1_turn 5 = .ok (.ifCond .eq 17, 3) := by decide +kernel
theorem dX1_turn_8 : decode cX1_turn 8 = .ok (.aload_n 0, 1) := by decide +kernel
theorem dX1_turn_9 : decode cX1_turn 9 = .ok (.getfield 21, 3) := by decide +kernel
theorem dX1_turn_12 : decode cX1_turn 12 = .ok (.iload_n 1, 1) := by decide +kernel
theorem dX1_turn_13 : decode cX1_turn 13 = .ok (.aload_n 0, 1) := by decide +kernel
theorem dX1_turn_14 : decode cX1_turn 14 = .ok (.getfield 21, 3) := by decide +kernel
theorem dX1_turn_17 : decode cX1_turn 17 = .ok (.iload_n 1, 1) := by decide +kernel
theorem dX1_turn_18 : decode cX1_turn 18 = .ok (.iaload, 1) := by decide +kernel
theorem dX1_turn_19 : decode cX1_turn 19 = .ok (.iconst 1, 1) := by decide +kernel
theorem dX1_turn_20 : decode cX1_turn 20 = .ok (.ixor, 1) := by decide +kernel
theorem dX1_turn_21 : decode cX1_turn 21 = .ok (.iastore, 1) := by decide +kernel
theorem dX1_turn_22 : decode cX1_turn 22 = .ok (.return_, 1) := by decide +kernel
theorem dX1_orderByNearest_0 : decode cX1_orderByNearest 0 = .ok (.iconst 1, 1) := by decide +kernel
theorem dX1_orderByNearest_1 : decode cX1_orderByNearest 1 = .ok (.aload_n 0, 1) := by decide +kernel
theorem dX1_orderByNearest_2 : decode cX1_orderByNearest 2 = .ok (.getfield 24, 3) := by decide +kernel
theorem dX1_orderByNearest_5 : decode cX1_orderByNearest 5 = .ok (.ishl, 1) := by decide +kernel
theorem dX1_orderByNearest_6 : decode cX1_orderByNearest 6 = .ok (.iconst 1, 1) := by decide +kernel
theorem dX1_orderByNearest_7 : decode cX1_orderByNearest 7 = .ok (.isub, 1) := by decide +kernel
theorem dX1_orderByNearest_8 : decode cX1_orderByNearest 8 = .ok (.istore_n 2, 1) := by decide +kernel
theorem dX1_orderByNearest_9 : decode cX1_orderByNearest 9 = .ok (.iconst (-1), 1) := by decide +kernel
theorem dX1_orderByNearest_10 : decode cX1_orderByNearest 10 = .ok (.istore_n 3, 1) := by decide +kernel
theorem dX1_orderByNearest_11 : decode cX1_orderByNearest 11 = .ok (.iconst 0, 1) := by decide +kernel
theorem dX1_orderByNearest_12 : decode cX1_orderByNearest 12 = .ok (.istore 4, 2) := by decide +kernel
theorem dX1_orderByNearest_14 : decode cX1_orderByNearest 14 = .ok (.iload 4, 2) := by decide +kernel
theorem dX1_orderByNearest_16 : decode cX1_orderByNearest 16 = .ok (.aload_n 0, 1) := by decide +kernel
theorem dX1_orderByNearest_17 : decode cX1_orderByNearest 17 = .ok (.getfield 24, 3) := by decide +kernel
theorem dX1_orderByNearest_20 : decode cX1_orderByNearest 20 = .ok (.if_icmp .ge 34, 3) := by decide +kernel
theorem dX1_orderByNearest_23 : decode cX1_orderByNearest 23 = .ok (.aload_n 0, 1) := by decide +kernel
theorem dX1_orderByNearest_24 : decode cX1_orderByNearest 24 = .ok (.iload_n 2, 1) := by decide +kernel
theorem dX1_orderByNearest_25 : decode cX1_orderByNearest 25 = .ok (.iload_n 3, 1) := by decide +kernel
theorem dX1_orderByNearest_26 : decode cX1_orderByNearest 26 = .ok (.iload_n 1, 1) := by decide +kernel
theorem dX1_orderByNearest_27 : decode cX1_orderByNearest 27 = .ok (.invokevirtual 55, 3) := by decide +kernel
theorem dX1_orderByNearest_30 : decode cX1_orderByNearest 30 = .ok (.istore_n 3, 1) := by decide +kernel
theorem dX1_orderByNearest_31 : decode cX1_orderByNearest 31 = .ok (.aload_n 0, 1) := by decide +kernel
theorem dX1_orderByNearest_32 : decode cX1_orderByNearest 32 = .ok (.iload 4, 2) := by decide +kernel
theorem dX1_orderByNearest_34 : decode cX1_orderByNearest 34 = .ok (.iload_n 3, 1) := by decide +kernel
theorem dX1_orderByNearest_35 : decode cX1_orderByNearest 35 = .ok (.invokevirtual 59, 3) := by decide +kernel
theorem dX1_orderByNearest_38 : decode cX1_orderByNearest 38 = .ok (.iload_n 2, 1) := by decide +kernel
theorem dX1_orderByNearest_39 : decode cX1_orderByNearest 39 = .ok (.iconst 1, 1) := by decide +kernel
theorem dX1_orderByNearest_40 : decode cX1_orderByNearest 40 = .ok (.iload_n 3, 1) := by decide +kernel
theorem dX1_orderByNearest_41 : decode cX1_orderByNearest 41 = .ok (.iconst 2, 1) := by decide +kernel
theorem dX1_orderByNearest_42 : decode cX1_orderByNearest 42 = .ok (.idiv, 1) := by decide +kernel
theorem dX1_orderByNearest_43 : decode cX1_orderByNearest 43 = .ok (.ishl, 1) := by decide +kernel
theorem dX1_orderByNearest_44 : decode cX1_orderByNearest 44 = .ok (.iconst (-1), 1) := by decide +kernel
theorem dX1_orderByNearest_45 : decode cX1_orderByNearest 45 = .ok (.ixor, 1) := by decide +kernel
theorem dX1_orderByNearest_46 : decode cX1_orderByNearest 46 = .ok (.iand, 1) := by decide +kernel
theorem dX1_orderByNearest_47 : decode cX1_orderByNearest 47 = .ok (.istore_n 2, 1) := by decide +kernel
theorem dX1_orderByNearest_48 : decode cX1_orderByNearest 48 = .ok (.iinc 4 1, 3) := by decide +kernel
theorem dX1_orderByNearest_51 : decode cX1_orderByNearest 51 = .ok (.goto (-37), 3) := by decide +kernel
theorem dX1_orderByNearest_54 : decode cX1_orderByNearest 54 = .ok (.return_, 1) := by decide +kernel
theorem dX1_nearestCode_0 : decode cX1_nearestCode 0 = .ok (.iconst (-1), 1) := by decide +kernel
theorem dX1_nearestCode_1 : decode cX1_nearestCode 1 = .ok (.istore 4, 2) := by decide +kernel
theorem dX1_nearestCode_3 : decode cX1_nearestCode 3 = .ok (.iconst 0, 1) := by decide +kernel
theorem dX1_nearestCode_4 : decode cX1_nearestCode 4 = .ok (.istore 5, 2) := by decide +kernel
theorem dX1_nearestCode_6 : decode cX1_nearestCode 6 = .ok (.iconst 0, 1) := by decide +kernel
theorem dX1_nearestCode_7 : decode cX1_nearestCode 7 = .ok (.istore 6, 2) := by decide +kernel
theorem dX1_nearestCode_9 : decode cX1_nearestCode 9 = .ok (.iload 6, 2) := by decide +kernel
theorem dX1_nearestCode_11 : decode cX1_nearestCode 11 = .ok (.iconst 2, 1) := by decide +kernel
theorem dX1_nearestCode_12 : decode cX1_nearestCode 12 = .ok (.aload_n 0, 1) := by decide +kernel
theorem dX1_nearestCode_13 : decode cX1_nearestCode 13 = .ok (.getfield 24, 3) := by decide +kernel
theorem dX1_nearestCode_16 : decode cX1_nearestCode 16 = .ok (.imul, 1) := by decide +kernel
theorem dX1_nearestCode_17 : decode cX1_nearestCode 17 = .ok (.if_icmp .ge 52, 3) := by decide +kernel
theorem dX1_nearestCode_20 : decode cX1_nearestCode 20 = .ok (.iload_n 1, 1) := by decide +kernel
theorem dX1_nearestCode_21 : decode cX1_nearestCode 21 = .ok (.iload 6, 2) := by decide +kernel
theorem dX1_nearestCode_23 : decode cX1_nearestCode 23 = .ok (.iconst 2, 1) := by decide +kernel
theorem dX1_nearestCode_24 : decode cX1_nearestCode 24 = .ok (.idiv, 1) := by decide +kernel
theorem dX1_nearestCode_25 : decode cX1_nearestCode 25 = .ok (.ishr, 1) := by decide +kernel
theorem dX1_nearestCode_26 : decode cX1_nearestCode 26 = .ok (.iconst 1, 1) := by decide +kernel
theorem dX1_nearestCode_27 : decode cX1_nearestCode 27 = .ok (.iand, 1) := by decide +kernel
theorem dX1_nearestCode_28 : decode cX1_nearestCode 28 = .ok (.iconst 1, 1) := by decide +kernel
theorem dX1_nearestCode_29 : decode cX1_nearestCode 29 = .ok (.if_icmp .ne 34, 3) := by decide +kernel
theorem dX1_nearestCode_32 : decode cX1_nearestCode 32 = .ok (.aload_n 0, 1) := by decide +kernel
theorem dX1_nearestCode_33 : decode cX1_nearestCode 33 = .ok (.iload_n 2, 1) := by decide +kernel
theorem dX1_nearestCode_34 : decode cX1_nearestCode 34 = .ok (.iload 6, 2) := by decide +kernel
theorem dX1_nearestCode_36 : decode cX1_nearestCode 36 = .ok (.iload_n 3, 1) := by decide +kernel
theorem dX1_nearestCode_37 : decode cX1_nearestCode 37 = .ok (.invokevirtual 63, 3) := by decide +kernel
theorem dX1_nearestCode_40 : decode cX1_nearestCode 40 = .ok (.istore 7, 2) := by decide +kernel
theorem dX1_nearestCode_42 : decode cX1_nearestCode 42 = .ok (.iload 4, 2) := by decide +kernel
theorem dX1_nearestCode_44 : decode cX1_nearestCode 44 = .ok (.iconst (-1), 1) := by decide +kernel
theorem dX1_nearestCode_45 : decode cX1_nearestCode 45 = .ok (.if_icmp .eq 10, 3) := by decide +kernel
theorem dX1_nearestCode_48 : decode cX1_nearestCode 48 = .ok (.iload 7, 2) := by decide +kernel
theorem dX1_nearestCode_50 : decode cX1_nearestCode 50 = .ok (.iload 5, 2) := by decide +kernel
theorem dX1_nearestCode_52 : decode cX1_nearestCode 52 = .ok (.if_icmp .ge 11, 3) := by decide +kernel
theorem dX1_nearestCode_55 : decode cX1_nearestCode 55 = .ok (.iload 6, 2) := by decide +kernel
theorem dX1_nearestCode_57 : decode cX1_nearestCode 57 = .ok (.istore 4, 2) := by decide +kernel
theorem dX1_nearestCode_59 : decode cX1_nearestCode 59 = .ok (.iload 7, 2) := by decide +kernel
theorem dX1_nearestCode_61 : decode cX1_nearestCode 61 = .ok (.istore 5, 2) := by decide +kernel
theorem dX1_nearestCode_63 : decode cX1_nearestCode 63 = .ok (.iinc 6 1, 3) := by decide +kernel
theorem dX1_nearestCode_66 : decode cX1_nearestCode 66 = .ok (.goto (-57), 3) := by decide +kernel
theorem dX1_nearestCode_69 : decode cX1_nearestCode 69 = .ok (.iload 4, 2) := by decide +kernel
theorem dX1_nearestCode_71 : decode cX1_nearestCode 71 = .ok (.ireturn, 1) := by decide +kernel
theorem dX1_stepCost_0 : decode cX1_stepCost 0 = .ok (.aload_n 0, 1) := by decide +kernel
theorem dX1_stepCost_1 : decode cX1_stepCost 1 = .ok (.iload_n 1, 1) := by decide +kernel
theorem dX1_stepCost_2 : decode cX1_stepCost 2 = .ok (.invokevirtual 66, 3) := by decide +kernel
theorem dX1_stepCost_5 : decode cX1_stepCost 5 = .ok (.aload_n 0, 1) := by decide +kernel
theorem dX1_stepCost_6 : decode cX1_stepCost 6 = .ok (.iload_n 1, 1) := by decide +kernel
theorem dX1_stepCost_7 : decode cX1_stepCost 7 = .ok (.invokevirtual 69, 3) := by decide +kernel
theorem dX1_stepCost_10 : decode cX1_stepCost 10 = .ok (.aload_n 0, 1) := by decide +kernel
theorem dX1_stepCost_11 : decode cX1_stepCost 11 = .ok (.iload_n 2, 1) := by decide +kernel
theorem dX1_stepCost_12 : decode cX1_stepCost 12 = .ok (.invokevirtual 72, 3) := by decide +kernel
theorem dX1_stepCost_15 : decode cX1_stepCost 15 = .ok (.aload_n 0, 1) := by decide +kernel
theorem dX1_stepCost_16 : decode cX1_stepCost 16 = .ok (.iload_n 2, 1) := by decide +kernel
theorem dX1_stepCost_17 : decode cX1_stepCost 17 = .ok (.invokevirtual 75, 3) := by decide +kernel
theorem dX1_stepCost_20 : decode cX1_stepCost 20 = .ok (.invokestatic 78, 3) := by decide +kernel
theorem dX1_stepCost_23 : decode cX1_stepCost 23 = .ok (.istore 4, 2) := by decide +kernel
theorem dX1_stepCost_25 : decode cX1_stepCost 25 = .ok (.iload 4, 2) := by decide +kernel
theorem dX1_stepCost_27 : decode cX1_stepCost 27 = .ok (.aload_n 0, 1) := by decide +kernel
theorem dX1_stepCost_28 : decode cX1_stepCost 28 = .ok (.iload_n 1, 1) := by decide +kernel
theorem dX1_stepCost_29 : decode cX1_stepCost 29 = .ok (.iload_n 2, 1) := by decide +kernel
theorem dX1_stepCost_30 : decode cX1_stepCost 30 = .ok (.invokevirtual 82, 3) := by decide +kernel
theorem dX1_stepCost_33 : decode cX1_stepCost 33 = .ok (.ifCond .eq 7, 3) := by decide +kernel
theorem dX1_stepCost_36 : decode cX1_stepCost 36 = .ok (.iload_n 3, 1) := by decide +kernel
theorem dX1_stepCost_37 : decode cX1_stepCost 37 = .ok (.goto 4, 3) := by decide +kernel
theorem dX1_stepCost_40 : decode cX1_stepCost 40 = .ok (.iconst 0, 1) := by decide +kernel
theorem dX1_stepCost_41 : decode cX1_stepCost 41 = .ok (.iadd, 1) := by decide +kernel
theorem dX1_stepCost_42 : decode cX1_stepCost 42 = .ok (.ireturn, 1) := by decide +kernel
theorem dX1_planCost_0 : decode cX1_planCost 0 = .ok (.iconst 0, 1) := by decide +kernel
theorem dX1_planCost_1 : decode cX1_planCost 1 = .ok (.istore_n 2, 1) := by decide +kernel
theorem dX1_planCost_2 : decode cX1_planCost 2 = .ok (.iconst (-1), 1) := by decide +kernel
theorem dX1_planCost_3 : decode cX1_planCost 3 = .ok (.istore_n 3, 1) := by decide +kernel
theorem dX1_planCost_4 : decode cX1_planCost 4 = .ok (.iconst 0, 1) := by decide +kernel
theorem dX1_planCost_5 : decode cX1_planCost 5 = .ok (.istore 4, 2) := by decide +kernel
theorem dX1_planCost_7 : decode cX1_planCost 7 = .ok (.iload 4, 2) := by decide +kernel
theorem dX1_planCost_9 : decode cX1_planCost 9 = .ok (.aload_n 0, 1) := by decide +kernel
theorem dX1_planCost_10 : decode cX1_planCost 10 = .ok (.getfield 24, 3) := by decide +kernel
theorem dX1_planCost_13 : decode cX1_planCost 13 = .ok (.if_icmp .ge 33, 3) := by decide +kernel
theorem dX1_planCost_16 : decode cX1_planCost 16 = .ok (.iload_n 2, 1) := by decide +kernel
theorem dX1_planCost_17 : decode cX1_planCost 17 = .ok (.aload_n 0, 1) := by decide +kernel
theorem dX1_planCost_18 : decode cX1_planCost 18 = .ok (.iload_n 3, 1) := by decide +kernel
theorem dX1_planCost_19 : decode cX1_planCost 19 = .ok (.aload_n 0, 1) := by decide +kernel
theorem dX1_planCost_20 : decode cX1_planCost 20 = .ok (.getfield 21, 3) := by decide +kernel
theorem dX1_planCost_23 : decode cX1_planCost 23 = .ok (.iload 4, 2) := by decide +kernel
theorem dX1_planCost_25 : decode cX1_planCost 25 = .ok (.iaload, 1) := by decide +kernel
theorem dX1_planCost_26 : decode cX1_planCost 26 = .ok (.iload_n 1, 1) := by decide +kernel
theorem dX1_planCost_27 : decode cX1_planCost 27 = .ok (.invokevirtual 63, 3) := by decide +kernel
theorem dX1_planCost_30 : decode cX1_planCost 30 = .ok (.iadd, 1) := by decide +kernel
theorem dX1_planCost_31 : decode cX1_planCost 31 = .ok (.istore_n 2, 1) := by decide +kernel
theorem dX1_planCost_32 : decode cX1_planCost 32 = .ok (.aload_n 0, 1) := by decide +kernel
theorem dX1_planCost_33 : decode cX1_planCost 33 = .ok (.getfield 21, 3) := by decide +kernel
theorem dX1_planCost_36 : decode cX1_planCost 36 = .ok (.iload 4, 2) := by decide +kernel
theorem dX1_planCost_38 : decode cX1_planCost 38 = .ok (.iaload, 1) := by decide +kernel
theorem dX1_planCost_39 : decode cX1_planCost 39 = .ok (.istore_n 3, 1) := by decide +kernel
theorem dX1_planCost_40 : decode cX1_planCost 40 = .ok (.iinc 4 1, 3) := by decide +kernel
theorem dX1_planCost_43 : decode cX1_planCost 43 = .ok (.goto (-36), 3) := by decide +kernel
theorem dX1_planCost_46 : decode cX1_planCost 46 = .ok (.iload_n 2, 1) := by decide +kernel
theorem dX1_planCost_47 : decode cX1_planCost 47 = .ok (.ireturn, 1) := by decide +kernel
theorem dX1_countPenChanges_0 : decode cX1_countPenChanges 0 = .ok (.iconst 0, 1) := by decide +kernel
theorem dX1_countPenChanges_1 : decode cX1_countPenChanges 1 = .ok (.istore_n 1, 1) := by decide +kernel
theorem dX1_countPenChanges_2 : decode cX1_countPenChanges 2 = .ok (.iconst (-1), 1) := by decide +kernel
theorem dX1_countPenChanges_3 : decode cX1_countPenChanges 3 = .ok (.istore_n 2, 1) := by decide +kernel
theorem dX1_countPenChanges_4 : decode cX1_countPenChanges 4 = .ok (.iconst 0, 1) := by decide +kernel
theorem dX1_countPenChanges_5 : decode cX1_countPenChanges 5 = .ok (.istore_n 3, 1) := by decide +kernel
theorem dX1_countPenChanges_6 : decode cX1_countPenChanges 6 = .ok (.iload_n 3, 1) := by decide +kernel
theorem dX1_countPenChanges_7 : decode cX1_countPenChanges 7 = .ok (.aload_n 0, 1) := by decide +kernel
theorem dX1_countPenChanges_8 : decode cX1_countPenChanges 8 = .ok (.getfield 24, 3) := by decide +kernel
theorem dX1_countPenChanges_11 : decode cX1_countPenChanges 11 = .ok (.if_icmp .ge 33, 3) := by decide +kernel
theorem dX1_countPenChanges_14 : decode cX1_countPenChanges 14 = .ok (.aload_n 0, 1) := by decide +kernel
theorem dX1_countPenChanges_15 : decode cX1_countPenChanges 15 = .ok (.iload_n 2, 1) := by decide +kernel
theorem dX1_countPenChanges_16 : decode cX1_countPenChanges 16 = .ok (.aload_n 0, 1) := by decide +kernel
theorem dX1_countPenChanges_17 : decode cX1_countPenChanges 17 = .ok (.getfield 21, 3) := by decide +kernel
theorem dX1_countPenChanges_20 : decode cX1_countPenChanges 20 = .ok (.iload_n 3, 1) := by decide +kernel
theorem dX1_countPenChanges_21 : decode cX1_countPenChanges 21 = .ok (.iaload, 1) := by decide +kernel
theorem dX1_countPenChanges_22 : decode cX1_countPenChanges 22 = .ok (.invokevirtual 82, 3) := by decide +kernel
theorem dX1_countPenChanges_25 : decode cX1_countPenChanges 25 = .ok (.ifCond .eq 6, 3) := by decide +kernel
theorem dX1_countPenChanges_28 : decode cX1_countPenChanges 28 = .ok (.iinc 1 1, 3) := by decide +kernel
theorem dX1_countPenChanges_31 : decode cX1_countPenChanges 31 = .ok (.aload_n 0, 1) := by decide +kernel
theorem dX1_countPenChanges_32 : decode cX1_countPenChanges 32 = .ok (.getfield 21, 3) := by decide +kernel
theorem dX1_countPenChanges_35 : decode cX1_countPenChanges 35 = .ok (.iload_n 3, 1) := by decide +kernel
theorem dX1_countPenChanges_36 : decode cX1_countPenChanges 36 = .ok (.iaload, 1) := by decide +kernel
theorem dX1_countPenChanges_37 : decode cX1_countPenChanges 37 = .ok (.istore_n 2, 1) := by decide +kernel
theorem dX1_countPenChanges_38 : decode cX1_countPenChanges 38 = .ok (.iinc 3 1, 3) := by decide +kernel
theorem dX1_countPenChanges_41 : decode cX1_countPenChanges 41 = .ok (.goto (-35), 3) := by decide +kernel
theorem dX1_countPenChanges_44 : decode cX1_countPenChanges 44 = .ok (.iload_n 1, 1) := by decide +kernel
theorem dX1_countPenChanges_45 : decode cX1_countPenChanges 45 = .ok (.ireturn, 1) := by decide +kernel
theorem dX1_changesPen_0 : decode cX1_changesPen 0 = .ok (.aload_n 0, 1) := by decide +kernel
theorem dX1_changesPen_1 : decode cX1_changesPen 1 = .ok (.iload_n 1, 1) := by decide +kernel
theorem dX1_changesPen_2 : decode cX1_changesPen 2 = .ok (.invokevirtual 86, 3) := by decide +kernel
theorem dX1_changesPen_5 : decode cX1_changesPen 5 = .ok (.aload_n 0, 1) := by decide +kernel
theorem dX1_changesPen_6 : decode cX1_changesPen 6 = .ok (.iload_n 2, 1) := by decide +kernel
theorem dX1_changesPen_7 : decode cX1_changesPen 7 = .ok (.invokevirtual 86, 3) := by decide +kernel
theorem dX1_changesPen_10 : decode cX1_changesPen 10 = .ok (.if_icmp .eq 7, 3) := by decide +kernel
theorem dX1_changesPen_13 : decode cX1_changesPen 13 = .ok (.iconst 1, 1) := by decide +kernel
theorem dX1_changesPen_14 : decode cX1_changesPen 14 = .ok (.goto 4, 3) := by decide +kernel
theorem dX1_changesPen_17 : decode cX1_changesPen 17 = .ok (.iconst 0, 1) := by decide +kernel
theorem dX1_changesPen_18 : decode cX1_changesPen 18 = .ok (.ireturn, 1) := by decide +kernel
theorem dX1_isLinkedToNext_0 : decode cX1_isLinkedToNext 0 = .ok (.aload_n 0, 1) := by decide +kernel
theorem dX1_isLinkedToNext_1 : decode cX1_isLinkedToNext 1 = .ok (.iload_n 1, 1) := by decide +kernel
theorem dX1_isLinkedToNext_2 : decode cX1_isLinkedToNext 2 = .ok (.invokevirtual 32, 3) := by decide +kernel
theorem dX1_isLinkedToNext_5 : decode cX1_isLinkedToNext 5 = .ok (.ifCond .eq 13, 3) := by decide +kernel
theorem dX1_isLinkedToNext_8 : decode cX1_isLinkedToNext 8 = .ok (.aload_n 0, 1) := by decide +kernel
theorem dX1_isLinkedToNext_9 : decode cX1_isLinkedToNext 9 = .ok (.iload_n 1, 1) := by decide +kernel
theorem dX1_isLinkedToNext_10 : decode cX1_isLinkedToNext 10 = .ok (.iconst 1, 1) := by decide +kernel
theorem dX1_isLinkedToNext_11 : decode cX1_isLinkedToNext 11 = .ok (.iadd, 1) := by decide +kernel
theorem dX1_isLinkedToNext_12 : decode cX1_isLinkedToNext 12 = .ok (.invokevirtual 32, 3) := by decide +kernel
theorem dX1_isLinkedToNext_15 : decode cX1_isLinkedToNext 15 = .ok (.ifCond .ne 5, 3) := by decide +kernel
theorem dX1_isLinkedToNext_18 : decode cX1_isLinkedToNext 18 = .ok (.iconst 0, 1) := by decide +kernel
theorem dX1_isLinkedToNext_19 : decode cX1_isLinkedToNext 19 = .ok (.ireturn, 1) := by decide +kernel
theorem dX1_isLinkedToNext_20 : decode cX1_isLinkedToNext 20 = .ok (.aload_n 0, 1) := by decide +kernel
theorem dX1_isLinkedToNext_21 : decode cX1_isLinkedToNext 21 = .ok (.getfield 21, 3) := by decide +kernel
theorem dX1_isLinkedToNext_24 : decode cX1_isLinkedToNext 24 = .ok (.iload_n 1, 1) := by decide +kernel
theorem dX1_isLinkedToNext_25 : decode cX1_isLinkedToNext 25 = .ok (.iaload, 1) := by decide +kernel
theorem dX1_isLinkedToNext_26 : decode cX1_isLinkedToNext 26 = .ok (.istore_n 2, 1) := by decide +kernel
theorem dX1_isLinkedToNext_27 : decode cX1_isLinkedToNext 27 = .ok (.aload_n 0, 1) := by decide +kernel
theorem dX1_isLinkedToNext_28 : decode cX1_isLinkedToNext 28 = .ok (.getfield 21, 3) := by decide +kernel
theorem dX1_isLinkedToNext_31 : decode cX1_isLinkedToNext 31 = .ok (.iload_n 1, 1) := by decide +kernel
theorem dX1_isLinkedToNext_32 : decode cX1_isLinkedToNext 32 = .ok (.iconst 1, 1) := by decide +kernel
theorem dX1_isLinkedToNext_33 : decode cX1_isLinkedToNext 33 = .ok (.iadd, 1) := by decide +kernel
theorem dX1_isLinkedToNext_34 : decode cX1_isLinkedToNext 34 = .ok (.iaload, 1) := by decide +kernel
theorem dX1_isLinkedToNext_35 : decode cX1_isLinkedToNext 35 = .ok (.istore_n 3, 1) := by decide +kernel
theorem dX1_isLinkedToNext_36 : decode cX1_isLinkedToNext 36 = .ok (.aload_n 0, 1) := by decide +kernel
theorem dX1_isLinkedToNext_37 : decode cX1_isLinkedToNext 37 = .ok (.iload_n 2, 1) := by decide +kernel
theorem dX1_isLinkedToNext_38 : decode cX1_isLinkedToNext 38 = .ok (.iload_n 3, 1) := by decide +kernel
theorem dX1_isLinkedToNext_39 : decode cX1_isLinkedToNext 39 = .ok (.invokevirtual 82, 3) := by decide +kernel
theorem dX1_isLinkedToNext_42 : decode cX1_isLinkedToNext 42 = .ok (.ifCond .ne 33, 3) := by decide +kernel
theorem dX1_isLinkedToNext_45 : decode cX1_isLinkedToNext 45 = .ok (.aload_n 0, 1) := by decide +kernel
theorem dX1_isLinkedToNext_46 : decode cX1_isLinkedToNext 46 = .ok (.iload_n 2, 1) := by decide +kernel
theorem dX1_isLinkedToNext_47 : decode cX1_isLinkedToNext 47 = .ok (.invokevirtual 66, 3) := by decide +kernel
theorem dX1_isLinkedToNext_50 : decode cX1_isLinkedToNext 50 = .ok (.aload_n 0, 1) := by decide +kernel
theorem dX1_isLinkedToNext_51 : decode cX1_isLinkedToNext 51 = .ok (.iload_n 3, 1) := by decide +kernel
theorem dX1_isLinkedToNext_52 : decode cX1_isLinkedToNext 52 = .ok (.invokevirtual 72, 3) := by decide +kernel
theorem dX1_isLinkedToNext_55 : decode cX1_isLinkedToNext 55 = .ok (.if_icmp .ne 20, 3) := by decide +kernel
theorem dX1_isLinkedToNext_58 : decode cX1_isLinkedToNext 58 = .ok (.aload_n 0, 1) := by decide +kernel
theorem dX1_isLinkedToNext_59 : decode cX1_isLinkedToNext 59 = .ok (.iload_n 2, 1) := by decide +kernel
theorem dX1_isLinkedToNext_60 : decode cX1_isLinkedToNext 60 = .ok (.invokevirtual 69, 3) := by decide +kernel
theorem dX1_isLinkedToNext_63 : decode cX1_isLinkedToNext 63 = .ok (.aload_n 0, 1) := by decide +kernel
theorem dX1_isLinkedToNext_64 : decode cX1_isLinkedToNext 64 = .ok (.iload_n 3, 1) := by decide +kernel
theorem dX1_isLinkedToNext_65 : decode cX1_isLinkedToNext 65 = .ok (.invokevirtual 75, 3) := by decide +kernel
theorem dX1_isLinkedToNext_68 : decode cX1_isLinkedToNext 68 = .ok (.if_icmp .ne 7, 3) := by decide +kernel
theorem dX1_isLinkedToNext_71 : decode cX1_isLinkedToNext 71 = .ok (.iconst 1, 1) := by decide +kernel
theorem dX1_isLinkedToNext_72 : decode cX1_isLinkedToNext 72 = .ok (.goto 4, 3) := by decide +kernel
theorem dX1_isLinkedToNext_75 : decode cX1_isLinkedToNext 75 = .ok (.iconst 0, 1) := by decide +kernel
theorem dX1_isLinkedToNext_76 : decode cX1_isLinkedToNext 76 = .ok (.ireturn, 1) := by decide +kernel
theorem dX1_countRuns_0 : decode cX1_countRuns 0 = .ok (.iconst 0, 1) := by decide +kernel
theorem dX1_countRuns_1 : decode cX1_countRuns 1 = .ok (.istore_n 1, 1) := by decide +kernel
theorem dX1_countRuns_2 : decode cX1_countRuns 2 = .ok (.iconst 0, 1) := by decide +kernel
theorem dX1_countRuns_3 : decode cX1_countRuns 3 = .ok (.istore_n 2, 1) := by decide +kernel
theorem dX1_countRuns_4 : decode cX1_countRuns 4 = .ok (.iload_n 2, 1) := by decide +kernel
theorem dX1_countRuns_5 : decode cX1_countRuns 5 = .ok (.aload_n 0, 1) := by decide +kernel
theorem dX1_countRuns_6 : decode cX1_countRuns 6 = .ok (.getfield 24, 3) := by decide +kernel
theorem dX1_countRuns_9 : decode cX1_countRuns 9 = .ok (.if_icmp .ge 20, 3) := by decide +kernel
theorem dX1_countRuns_12 : decode cX1_countRuns 12 = .ok (.aload_n 0, 1) := by decide +kernel
theorem dX1_countRuns_13 : decode cX1_countRuns 13 = .ok (.iload_n 2, 1) := by decide +kernel
theorem dX1_countRuns_14 : decode cX1_countRuns 14 = .ok (.invokevirtual 89, 3) := by decide +kernel
theorem dX1_countRuns_17 : decode cX1_countRuns 17 = .ok (.ifCond .ne 6, 3) := by decide +kernel
theorem dX1_countRuns_20 : decode cX1_countRuns 20 = .ok (.iinc 1 1, 3) := by decide +kernel
theorem dX1_countRuns_23 : decode cX1_countRuns 23 = .ok (.iinc 2 1, 3) := by decide +kernel
theorem dX1_countRuns_26 : decode cX1_countRuns 26 = .ok (.goto (-22), 3) := by decide +kernel
theorem dX1_countRuns_29 : decode cX1_countRuns 29 = .ok (.iload_n 1, 1) := by decide +kernel
theorem dX1_countRuns_30 : decode cX1_countRuns 30 = .ok (.ireturn, 1) := by decide +kernel
theorem dX1_lengthOfRun_0 : decode cX1_lengthOfRun 0 = .ok (.iconst 0, 1) := by decide +kernel
theorem dX1_lengthOfRun_1 : decode cX1_lengthOfRun 1 = .ok (.istore_n 2, 1) := by decide +kernel
theorem dX1_lengthOfRun_2 : decode cX1_lengthOfRun 2 = .ok (.iconst 0, 1) := by decide +kernel
theorem dX1_lengthOfRun_3 : decode cX1_lengthOfRun 3 = .ok (.istore_n 3, 1) := by decide +kernel
theorem dX1_lengthOfRun_4 : decode cX1_lengthOfRun 4 = .ok (.iconst 0, 1) := by decide +kernel
theorem dX1_lengthOfRun_5 : decode cX1_lengthOfRun 5 = .ok (.istore 4, 2) := by decide +kernel
theorem dX1_lengthOfRun_7 : decode cX1_lengthOfRun 7 = .ok (.iload 4, 2) := by decide +kernel
theorem dX1_lengthOfRun_9 : decode cX1_lengthOfRun 9 = .ok (.aload_n 0, 1) := by decide +kernel
theorem dX1_lengthOfRun_10 : decode cX1_lengthOfRun 10 = .ok (.getfield 24, 3) := by decide +kernel
theorem dX1_lengthOfRun_13 : decode cX1_lengthOfRun 13 = .ok (.if_icmp .ge 29, 3) := by decide +kernel
theorem dX1_lengthOfRun_16 : decode cX1_lengthOfRun 16 = .ok (.iload_n 2, 1) := by decide +kernel
theorem dX1_lengthOfRun_17 : decode cX1_lengthOfRun 17 = .ok (.iload_n 1, 1) := by decide +kernel
theorem dX1_lengthOfRun_18 : decode cX1_lengthOfRun 18 = .ok (.if_icmp .ne 6, 3) := by decide +kernel
theorem dX1_lengthOfRun_21 : decode cX1_lengthOfRun 21 = .ok (.iinc 3 1, 3) := by decide +kernel
theorem dX1_lengthOfRun_24 : decode cX1_lengthOfRun 24 = .ok (.aload_n 0, 1) := by decide +kernel
theorem dX1_lengthOfRun_25 : decode cX1_lengthOfRun 25 = .ok (.iload 4, 2) := by decide +kernel
theorem dX1_lengthOfRun_27 : decode cX1_lengthOfRun 27 = .ok (.invokevirtual 89, 3) := by decide +kernel
theorem dX1_lengthOfRun_30 : decode cX1_lengthOfRun 30 = .ok (.ifCond .ne 6, 3) := by decide +kernel
theorem dX1_lengthOfRun_33 : decode cX1_lengthOfRun 33 = .ok (.iinc 2 1, 3) := by decide +kernel
theorem dX1_lengthOfRun_36 : decode cX1_lengthOfRun 36 = .ok (.iinc 4 1, 3) := by decide +kernel
theorem dX1_lengthOfRun_39 : decode cX1_lengthOfRun 39 = .ok (.goto (-32), 3) := by decide +kernel
theorem dX1_lengthOfRun_42 : decode cX1_lengthOfRun 42 = .ok (.iload_n 3, 1) := by decide +kernel
theorem dX1_lengthOfRun_43 : decode cX1_lengthOfRun 43 = .ok (.ireturn, 1) := by decide +kernel
theorem dX1_lowestAlike_0 : decode cX1_lowestAlike 0 = .ok (.iconst 0, 1) := by decide +kernel
theorem dX1_lowestAlike_1 : decode cX1_lowestAlike 1 = .ok (.istore_n 2, 1) := by decide +kernel
theorem dX1_lowestAlike_2 : decode cX1_lowestAlike 2 = .ok (.iload_n 2, 1) := by decide +kernel
theorem dX1_lowestAlike_3 : decode cX1_lowestAlike 3 = .ok (.aload_n 0, 1) := by decide +kernel
theorem dX1_lowestAlike_4 : decode cX1_lowestAlike 4 = .ok (.getfield 24, 3) := by decide +kernel
theorem dX1_lowestAlike_7 : decode cX1_lowestAlike 7 = .ok (.if_icmp .ge 25, 3) := by decide +kernel
theorem dX1_lowestAlike_10 : decode cX1_lowestAlike 10 = .ok (.iload_n 2, 1) := by decide +kernel
theorem dX1_lowestAlike_11 : decode cX1_lowestAlike 11 = .ok (.iload_n 1, 1) := by decide +kernel
theorem dX1_lowestAlike_12 : decode cX1_lowestAlike 12 = .ok (.if_icmp .eq 14, 3) := by decide +kernel
theorem dX1_lowestAlike_15 : decode cX1_lowestAlike 15 = .ok (.aload_n 0, 1) := by decide +kernel
theorem dX1_lowestAlike_16 : decode cX1_lowestAlike 16 = .ok (.iload_n 1, 1) := by decide +kernel
theorem dX1_lowestAlike_17 : decode cX1_lowestAlike 17 = .ok (.iload_n 2, 1) := by decide +kernel
theorem dX1_lowestAlike_18 : decode cX1_lowestAlike 18 = .ok (.invokevirtual 92, 3) := by decide +kernel
theorem dX1_lowestAlike_21 : decode cX1_lowestAlike 21 = .ok (.ifCond .eq 5, 3) := by decide +kernel
theorem dX1_lowestAlike_24 : decode cX1_lowestAlike 24 = .ok (.iload_n 2, 1) := by decide +kernel
theorem dX1_lowestAlike_25 : decode cX1_lowestAlike 25 = .ok (.ireturn, 1) := by decide +kernel
theorem dX1_lowestAlike_26 : decode cX1_lowestAlike 26 = .ok (.iinc 2 1, 3) := by decide +kernel
theorem dX1_lowestAlike_29 : decode cX1_lowestAlike 29 = .ok (.goto (-27), 3) := by decide +kernel
theorem dX1_lowestAlike_32 : decode cX1_lowestAlike 32 = .ok (.bipush (-3), 2) := by decide +kernel
theorem dX1_lowestAlike_34 : decode cX1_lowestAlike 34 = .ok (.ireturn, 1) := by decide +kernel
theorem dX1_lowestCover_0 : decode cX1_lowestCover 0 = .ok (.iconst 0, 1) := by decide +kernel
theorem dX1_lowestCover_1 : decode cX1_lowestCover 1 = .ok (.istore_n 2, 1) := by decide +kernel
theorem dX1_lowestCover_2 : decode cX1_lowestCover 2 = .ok (.iload_n 2, 1) := by decide +kernel
theorem dX1_lowestCover_3 : decode cX1_lowestCover 3 = .ok (.aload_n 0, 1) := by decide +kernel
theorem dX1_lowestCover_4 : decode cX1_lowestCover 4 = .ok (.getfield 24, 3) := by decide +kernel
theorem dX1_lowestCover_7 : decode cX1_lowestCover 7 = .ok (.if_icmp .ge 20, 3) := by decide +kernel
theorem dX1_lowestCover_10 : decode cX1_lowestCover 10 = .ok (.aload_n 0, 1) := by decide +kernel
theorem dX1_lowestCover_11 : decode cX1_lowestCover 11 = .ok (.iload_n 2, 1) := by decide +kernel
theorem dX1_lowestCover_12 : decode cX1_lowestCover 12 = .ok (.iload_n 1, 1) := by decide +kernel
theorem dX1_lowestCover_13 : decode cX1_lowestCover 13 = .ok (.invokevirtual 95, 3) := by decide +kernel
theorem dX1_lowestCover_16 : decode cX1_lowestCover 16 = .ok (.ifCond .eq 5, 3) := by decide +kernel
theorem dX1_lowestCover_19 : decode cX1_lowestCover 19 = .ok (.iload_n 2, 1) := by decide +kernel
theorem dX1_lowestCover_20 : decode cX1_lowestCover 20 = .ok (.ireturn, 1) := by decide +kernel
theorem dX1_lowestCover_21 : decode cX1_lowestCover 21 = .ok (.iinc 2 1, 3) := by decide +kernel
theorem dX1_lowestCover_24 : decode cX1_lowestCover 24 = .ok (.goto (-22), 3) := by decide +kernel
theorem dX1_lowestCover_27 : decode cX1_lowestCover 27 = .ok (.bipush (-3), 2) := by decide +kernel
theorem dX1_lowestCover_29 : decode cX1_lowestCover 29 = .ok (.ireturn, 1) := by decide +kernel
theorem dX1_areAlike_0 : decode cX1_areAlike 0 = .ok (.aload_n 0, 1) := by decide +kernel
theorem dX1_areAlike_1 : decode cX1_areAlike 1 = .ok (.iload_n 1, 1) := by decide +kernel
theorem dX1_areAlike_2 : decode cX1_areAlike 2 = .ok (.invokevirtual 98, 3) := by decide +kernel
theorem dX1_areAlike_5 : decode cX1_areAlike 5 = .ok (.aload_n 0, 1) := by decide +kernel
theorem dX1_areAlike_6 : decode cX1_areAlike 6 = .ok (.iload_n 2, 1) := by decide +kernel
theorem dX1_areAlike_7 : decode cX1_areAlike 7 = .ok (.invokevirtual 98, 3) := by decide +kernel
theorem dX1_areAlike_10 : decode cX1_areAlike 10 = .ok (.if_icmp .eq 5, 3) := by decide +kernel
theorem dX1_areAlike_13 : decode cX1_areAlike 13 = .ok (.iconst 0, 1) := by decide +kernel
theorem dX1_areAlike_14 : decode cX1_areAlike 14 = .ok (.ireturn, 1) := by decide +kernel
theorem dX1_areAlike_15 : decode cX1_areAlike 15 = .ok (.iconst 2, 1) := by decide +kernel
theorem dX1_areAlike_16 : decode cX1_areAlike 16 = .ok (.iload_n 1, 1) := by decide +kernel
theorem dX1_areAlike_17 : decode cX1_areAlike 17 = .ok (.imul, 1) := by decide +kernel
theorem dX1_areAlike_18 : decode cX1_areAlike 18 = .ok (.istore_n 3, 1) := by decide +kernel
theorem dX1_areAlike_19 : decode cX1_areAlike 19 = .ok (.iload_n 3, 1) := by decide +kernel
theorem dX1_areAlike_20 : decode cX1_areAlike 20 = .ok (.iconst 1, 1) := by decide +kernel
theorem dX1_areAlike_21 : decode cX1_areAlike 21 = .ok (.iadd, 1) := by decide +kernel
theorem dX1_areAlike_22 : decode cX1_areAlike 22 = .ok (.istore 4, 2) := by decide +kernel
theorem dX1_areAlike_24 : decode cX1_areAlike 24 = .ok (.aload_n 0, 1) := by decide +kernel
theorem dX1_areAlike_25 : decode cX1_areAlike 25 = .ok (.iload_n 3, 1) := by decide +kernel
theorem dX1_areAlike_26 : decode cX1_areAlike 26 = .ok (.iconst 2, 1) := by decide +kernel
theorem dX1_areAlike_27 : decode cX1_areAlike 27 = .ok (.iload_n 2, 1) := by decide +kernel
theorem dX1_areAlike_28 : decode cX1_areAlike 28 = .ok (.imul, 1) := by decide +kernel
theorem dX1_areAlike_29 : decode cX1_areAlike 29 = .ok (.invokevirtual 101, 3) := by decide +kernel
theorem dX1_areAlike_32 : decode cX1_areAlike 32 = .ok (.ifCond .eq 17, 3) := by decide +kernel
theorem dX1_areAlike_35 : decode cX1_areAlike 35 = .ok (.aload_n 0, 1) := by decide +kernel
theorem dX1_areAlike_36 : decode cX1_areAlike 36 = .ok (.iload 4, 2) := by decide +kernel
theorem dX1_areAlike_38 : decode cX1_areAlike 38 = .ok (.iconst 2, 1) := by decide +kernel
theorem dX1_areAlike_39 : decode cX1_areAlike 39 = .ok (.iload_n 2, 1) := by decide +kernel
theorem dX1_areAlike_40 : decode cX1_areAlike 40 = .ok (.imul, 1) := by decide +kernel
theorem dX1_areAlike_41 : decode cX1_areAlike 41 = .ok (.iconst 1, 1) := by decide +kernel
theorem dX1_areAlike_42 : decode cX1_areAlike 42 = .ok (.iadd, 1) := by decide +kernel
theorem dX1_areAlike_43 : decode cX1_areAlike 43 = .ok (.invokevirtual 101, 3) := by decide +kernel
theorem dX1_areAlike_46 : decode cX1_areAlike 46 = .ok (.ifCond .ne 28, 3) := by decide +kernel
theorem dX1_areAlike_49 : decode cX1_areAlike 49 = .ok (.aload_n 0, 1) := by decide +kernel
theorem dX1_areAlike_50 : decode cX1_areAlike 50 = .ok (.iload_n 3, 1) := by decide +kernel
theorem dX1_areAlike_51 : decode cX1_areAlike 51 = .ok (.iconst 2, 1) := by decide +kernel
theorem dX1_areAlike_52 : decode cX1_areAlike 52 = .ok (.iload_n 2, 1) := by decide +kernel
theorem dX1_areAlike_53 : decode cX1_areAlike 53 = .ok (.imul, 1) := by decide +kernel
theorem dX1_areAlike_54 : decode cX1_areAlike 54 = .ok (.iconst 1, 1) := by decide +kernel
theorem dX1_areAlike_55 : decode cX1_areAlike 55 = .ok (.iadd, 1) := by decide +kernel
theorem dX1_areAlike_56 : decode cX1_areAlike 56 = .ok (.invokevirtual 101, 3) := by decide +kernel
theorem dX1_areAlike_59 : decode cX1_areAlike 59 = .ok (.ifCond .eq 19, 3) := by decide +kernel
theorem dX1_areAlike_62 : decode cX1_areAlike 62 = .ok (.aload_n 0, 1) := by decide +kernel
theorem dX1_areAlike_63 : decode cX1_areAlike 63 = .ok (.iload 4, 2) := by decide +kernel
theorem dX1_areAlike_65 : decode cX1_areAlike 65 = .ok (.iconst 2, 1) := by decide +kernel
theorem dX1_areAlike_66 : decode cX1_areAlike 66 = .ok (.iload_n 2, 1) := by decide +kernel
theorem dX1_areAlike_67 : decode cX1_areAlike 67 = .ok (.imul, 1) := by decide +kernel
theorem dX1_areAlike_68 : decode cX1_areAlike 68 = .ok (.invokevirtual 101, 3) := by decide +kernel
theorem dX1_areAlike_71 : decode cX1_areAlike 71 = .ok (.ifCond .eq 7, 3) := by decide +kernel
theorem dX1_areAlike_74 : decode cX1_areAlike 74 = .ok (.iconst 1, 1) := by decide +kernel
theorem dX1_areAlike_75 : decode cX1_areAlike 75 = .ok (.goto 4, 3) := by decide +kernel
theorem dX1_areAlike_78 : decode cX1_areAlike 78 = .ok (.iconst 0, 1) := by decide +kernel
theorem dX1_areAlike_79 : decode cX1_areAlike 79 = .ok (.ireturn, 1) := by decide +kernel
theorem dX1_covers_0 : decode cX1_covers 0 = .ok (.aload_n 0, 1) := by decide +kernel
theorem dX1_covers_1 : decode cX1_covers 1 = .ok (.iload_n 1, 1) := by decide +kernel
theorem dX1_covers_2 : decode cX1_covers 2 = .ok (.invokevirtual 98, 3) := by decide +kernel
theorem dX1_covers_5 : decode cX1_covers 5 = .ok (.aload_n 0, 1) := by decide +kernel
theorem dX1_covers_6 : decode cX1_covers 6 = .ok (.iload_n 2, 1) := by decide +kernel
theorem dX1_covers_7 : decode cX1_covers 7 = .ok (.invokevirtual 98, 3) := by decide +kernel
theorem dX1_covers_10 : decode cX1_covers 10 = .ok (.if_icmp .ne 40, 3) := by decide +kernel
theorem dX1_covers_13 : decode cX1_covers 13 = .ok (.aload_n 0, 1) := by decide +kernel
theorem dX1_covers_14 : decode cX1_covers 14 = .ok (.iload_n 1, 1) := by decide +kernel
theorem dX1_covers_15 : decode cX1_covers 15 = .ok (.iload_n 2, 1) := by decide +kernel
theorem dX1_covers_16 : decode cX1_covers 16 = .ok (.invokevirtual 92, 3) := by decide +kernel
theorem dX1_covers_19 : decode cX1_covers 19 = .ok (.ifCond .ne 31, 3) := by decide +kernel
theorem dX1_covers_22 : decode cX1_covers 22 = .ok (.aload_n 0, 1) := by decide +kernel
theorem dX1_covers_23 : decode cX1_covers 23 = .ok (.iconst 2, 1) := by decide +kernel
theorem dX1_covers_24 : decode cX1_covers 24 = .ok (.iload_n 2, 1) := by decide +kernel
theorem dX1_covers_25 : decode cX1_covers 25 = .ok (.imul, 1) := by decide +kernel
theorem dX1_covers_26 : decode cX1_covers 26 = .ok (.iload_n 1, 1) := by decide +kernel
theorem dX1_covers_27 : decode cX1_covers 27 = .ok (.invokevirtual 104, 3) := by decide +kernel
theorem dX1_covers_30 : decode cX1_covers 30 = .ok (.ifCond .eq 20, 3) := by decide +kernel
theorem dX1_covers_33 : decode cX1_covers 33 = .ok (.aload_n 0, 1) := by decide +kernel
theorem dX1_covers_34 : decode cX1_covers 34 = .ok (.iconst 2, 1) := by decide +kernel
theorem dX1_covers_35 : decode cX1_covers 35 = .ok (.iload_n 2, 1) := by decide +kernel
theorem dX1_covers_36 : decode cX1_covers 36 = .ok (.imul, 1) := by decide +kernel
theorem dX1_covers_37 : decode cX1_covers 37 = .ok (.iconst 1, 1) := by decide +kernel
theorem dX1_covers_38 : decode cX1_covers 38 = .ok (.iadd, 1) := by decide +kernel
theorem dX1_covers_39 : decode cX1_covers 39 = .ok (.iload_n 1, 1) := by decide +kernel
theorem dX1_covers_40 : decode cX1_covers 40 = .ok (.invokevirtual 104, 3) := by decide +kernel
theorem dX1_covers_43 : decode cX1_covers 43 = .ok (.ifCond .eq 7, 3) := by decide +kernel
theorem dX1_covers_46 : decode cX1_covers 46 = .ok (.iconst 1, 1) := by decide +kernel
theorem dX1_covers_47 : decode cX1_covers 47 = .ok (.goto 4, 3) := by decide +kernel
theorem dX1_covers_50 : decode cX1_covers 50 = .ok (.iconst 0, 1) := by decide +kernel
theorem dX1_covers_51 : decode cX1_covers 51 = .ok (.ireturn, 1) := by decide +kernel
theorem dX1_liesOn_0 : decode cX1_liesOn 0 = .ok (.aload_n 0, 1) := by decide +kernel
theorem dX1_liesOn_1 : decode cX1_liesOn 1 = .ok (.iload_n 1, 1) := by decide +kernel
theorem dX1_liesOn_2 : decode cX1_liesOn 2 = .ok (.invokevirtual 72, 3) := by decide +kernel
theorem dX1_liesOn_5 : decode cX1_liesOn 5 = .ok (.istore_n 3, 1) := by decide +kernel
theorem dX1_liesOn_6 : decode cX1_liesOn 6 = .ok (.aload_n 0, 1) := by decide +kernel
theorem dX1_liesOn_7 : decode cX1_liesOn 7 = .ok (.iload_n 1, 1) := by decide +kernel
theorem dX1_liesOn_8 : decode cX1_liesOn 8 = .ok (.invokevirtual 75, 3) := by decide +kernel
theorem dX1_liesOn_11 : decode cX1_liesOn 11 = .ok (.istore 4, 2) := by decide +kernel
theorem dX1_liesOn_13 : decode cX1_liesOn 13 = .ok (.aload_n 0, 1) := by decide +kernel
theorem dX1_liesOn_14 : decode cX1_liesOn 14 = .ok (.iconst 2, 1) := by decide +kernel
theorem dX1_liesOn_15 : decode cX1_liesOn 15 = .ok (.iload_n 2, 1) := by decide +kernel
theorem dX1_liesOn_16 : decode cX1_liesOn 16 = .ok (.imul, 1) := by decide +kernel
theorem dX1_liesOn_17 : decode cX1_liesOn 17 = .ok (.invokevirtual 72, 3) := by decide +kernel
theorem dX1_liesOn_20 : decode cX1_liesOn 20 = .ok (.istore 5, 2) := by decide +kernel
theorem dX1_liesOn_22 : decode cX1_liesOn 22 = .ok (.aload_n 0, 1) := by decide +kernel
theorem dX1_liesOn_23 : decode cX1_liesOn 23 = .ok (.iconst 2, 1) := by decide +kernel
theorem dX1_liesOn_24 : decode cX1_liesOn 24 = .ok (.iload_n 2, 1) := by decide +kernel
theorem dX1_liesOn_25 : decode cX1_liesOn 25 = .ok (.imul, 1) := by decide +kernel
theorem dX1_liesOn_26 : decode cX1_liesOn 26 = .ok (.invokevirtual 75, 3) := by decide +kernel
theorem dX1_liesOn_29 : decode cX1_liesOn 29 = .ok (.istore 6, 2) := by decide +kernel
theorem dX1_liesOn_31 : decode cX1_liesOn 31 = .ok (.aload_n 0, 1) := by decide +kernel
theorem dX1_liesOn_32 : decode cX1_liesOn 32 = .ok (.iconst 2, 1) := by decide +kernel
theorem dX1_liesOn_33 : decode cX1_liesOn 33 = .ok (.iload_n 2, 1) := by decide +kernel
theorem dX1_liesOn_34 : decode cX1_liesOn 34 = .ok (.imul, 1) := by decide +kernel
theorem dX1_liesOn_35 : decode cX1_liesOn 35 = .ok (.invokevirtual 66, 3) := by decide +kernel
theorem dX1_liesOn_38 : decode cX1_liesOn 38 = .ok (.istore 7, 2) := by decide +kernel
theorem dX1_liesOn_40 : decode cX1_liesOn 40 = .ok (.aload_n 0, 1) := by decide +kernel
theorem dX1_liesOn_41 : decode cX1_liesOn 41 = .ok (.iconst 2, 1) := by decide +kernel
theorem dX1_liesOn_42 : decode cX1_liesOn 42 = .ok (.iload_n 2, 1) := by decide +kernel
theorem dX1_liesOn_43 : decode cX1_liesOn 43 = .ok (.imul, 1) := by decide +kernel
theorem dX1_liesOn_44 : decode cX1_liesOn 44 = .ok (.invokevirtual 69, 3) := by decide +kernel
theorem dX1_liesOn_47 : decode cX1_liesOn 47 = .ok (.istore 8, 2) := by decide +kernel
theorem dX1_liesOn_49 : decode cX1_liesOn 49 = .ok (.iload 7, 2) := by decide +kernel
theorem dX1_liesOn_51 : decode cX1_liesOn 51 = .ok (.iload 5, 2) := by decide +kernel
theorem dX1_liesOn_53 : decode cX1_liesOn 53 = .ok (.isub, 1) := by decide +kernel
theorem dX1_liesOn_54 : decode cX1_liesOn 54 = .ok (.iload 4, 2) := by decide +kernel
theorem dX1_liesOn_56 : decode cX1_liesOn 56 = .ok (.iload 6, 2) := by decide +kernel
theorem dX1_liesOn_58 : decode cX1_liesOn 58 = .ok (.isub, 1) := by decide +kernel
theorem dX1_liesOn_59 : decode cX1_liesOn 59 = .ok (.imul, 1) := by decide +kernel
theorem dX1_liesOn_60 : decode cX1_liesOn 60 = .ok (.iload 8, 2) := by decide +kernel
theorem dX1_liesOn_62 : decode cX1_liesOn 62 = .ok (.iload 6, 2) := by decide +kernel
theorem dX1_liesOn_64 : decode cX1_liesOn 64 = .ok (.isub, 1) := by decide +kernel
theorem dX1_liesOn_65 : decode cX1_liesOn 65 = .ok (.iload_n 3, 1) := by decide +kernel
theorem dX1_liesOn_66 : decode cX1_liesOn 66 = .ok (.iload 5, 2) := by decide +kernel
theorem dX1_liesOn_68 : decode cX1_liesOn 68 = .ok (.isub, 1) := by decide +kernel
theorem dX1_liesOn_69 : decode cX1_liesOn 69 = .ok (.imul, 1) := by decide +kernel
theorem dX1_liesOn_70 : decode cX1_liesOn 70 = .ok (.if_icmp .ne 50, 3) := by decide +kernel
theorem dX1_liesOn_73 : decode cX1_liesOn 73 = .ok (.iload_n 3, 1) := by decide +kernel
theorem dX1_liesOn_74 : decode cX1_liesOn 74 = .ok (.iload 5, 2) := by decide +kernel
theorem dX1_liesOn_76 : decode cX1_liesOn 76 = .ok (.iload 7, 2) := by decide +kernel
theorem dX1_liesOn_78 : decode cX1_liesOn 78 = .ok (.invokestatic 107, 3) := by decide +kernel
theorem dX1_liesOn_81 : decode cX1_liesOn 81 = .ok (.iload 5, 2) := by decide +kernel
theorem dX1_liesOn_83 : decode cX1_liesOn 83 = .ok (.iload 7, 2) := by decide +kernel
theorem dX1_liesOn_85 : decode cX1_liesOn 85 = .ok (.invokestatic 113, 3) := by decide +kernel
theorem dX1_liesOn_88 : decode cX1_liesOn 88 = .ok (.invokestatic 116, 3) := by decide +kernel
theorem dX1_liesOn_91 : decode cX1_liesOn 91 = .ok (.ifCond .eq 29, 3) := by decide +kernel
theorem dX1_liesOn_94 : decode cX1_liesOn 94 = .ok (.iload 4, 2) := by decide +kernel
theorem dX1_liesOn_96 : decode cX1_liesOn 96 = .ok (.iload 6, 2) := by decide +kernel
theorem dX1_liesOn_98 : decode cX1_liesOn 98 = .ok (.iload 8, 2) := by decide +kernel
theorem dX1_liesOn_100 : decode cX1_liesOn 100 = .ok (.invokestatic 107, 3) := by decide +kernel
theorem dX1_liesOn_103 : decode cX1_liesOn 103 = .ok (.iload 6, 2) := by decide +kernel
theorem dX1_liesOn_105 : decode cX1_liesOn 105 = .ok (.iload 8, 2) := by decide +kernel
theorem dX1_liesOn_107 : decode cX1_liesOn 107 = .ok (.invokestatic 113, 3) := by decide +kernel
theorem dX1_liesOn_110 : decode cX1_liesOn 110 = .ok (.invokestatic 116, 3) := by decide +kernel
theorem dX1_liesOn_113 : decode cX1_liesOn 113 = .ok (.ifCond .eq 7, 3) := by decide +kernel
theorem dX1_liesOn_116 : decode cX1_liesOn 116 = .ok (.iconst 1, 1) := by decide +kernel
theorem dX1_liesOn_117 : decode cX1_liesOn 117 = .ok (.goto 4, 3) := by decide +kernel
theorem dX1_liesOn_120 : decode cX1_liesOn 120 = .ok (.iconst 0, 1) := by decide +kernel
theorem dX1_liesOn_121 : decode cX1_liesOn 121 = .ok (.ireturn, 1) := by decide +kernel
theorem dX1_samePoint_0 : decode cX1_samePoint 0 = .ok (.aload_n 0, 1) := by decide +kernel
theorem dX1_samePoint_1 : decode cX1_samePoint 1 = .ok (.iload_n 1, 1) := by decide +kernel
theorem dX1_samePoint_2 : decode cX1_samePoint 2 = .ok (.invokevirtual 72, 3) := by decide +kernel
theorem dX1_samePoint_5 : decode cX1_samePoint 5 = .ok (.aload_n 0, 1) := by decide +kernel
theorem dX1_samePoint_6 : decode cX1_samePoint 6 = .ok (.iload_n 2, 1) := by decide +kernel
theorem dX1_samePoint_7 : decode cX1_samePoint 7 = .ok (.invokevirtual 72, 3) := by decide +kernel
theorem dX1_samePoint_10 : decode cX1_samePoint 10 = .ok (.if_icmp .ne 20, 3) := by decide +kernel
theorem dX1_samePoint_13 : decode cX1_samePoint 13 = .ok (.aload_n 0, 1) := by decide +kernel
theorem dX1_samePoint_14 : decode cX1_samePoint 14 = .ok (.iload_n 1, 1) := by decide +kernel
theorem dX1_samePoint_15 : decode cX1_samePoint 15 = .ok (.invokevirtual 75, 3) := by decide +kernel
theorem dX1_samePoint_18 : decode cX1_samePoint 18 = .ok (.aload_n 0, 1) := by decide +kernel
theorem dX1_samePoint_19 : decode cX1_samePoint 19 = .ok (.iload_n 2, 1) := by decide +kernel
theorem dX1_samePoint_20 : decode cX1_samePoint 20 = .ok (.invokevirtual 75, 3) := by decide +kernel
theorem dX1_samePoint_23 : decode cX1_samePoint 23 = .ok (.if_icmp .ne 7, 3) := by decide +kernel
theorem dX1_samePoint_26 : decode cX1_samePoint 26 = .ok (.iconst 1, 1) := by decide +kernel
theorem dX1_samePoint_27 : decode cX1_samePoint 27 = .ok (.goto 4, 3) := by decide +kernel
theorem dX1_samePoint_30 : decode cX1_samePoint 30 = .ok (.iconst 0, 1) := by decide +kernel
theorem dX1_samePoint_31 : decode cX1_samePoint 31 = .ok (.ireturn, 1) := by decide +kernel
theorem dX1_lengthAt_0 : decode cX1_lengthAt 0 = .ok (.aload_n 0, 1) := by decide +kernel
theorem dX1_lengthAt_1 : decode cX1_lengthAt 1 = .ok (.iload_n 1, 1) := by decide +kernel
theorem dX1_lengthAt_2 : decode cX1_lengthAt 2 = .ok (.invokevirtual 120, 3) := by decide +kernel
theorem dX1_lengthAt_5 : decode cX1_lengthAt 5 = .ok (.istore_n 2, 1) := by decide +kernel
theorem dX1_lengthAt_6 : decode cX1_lengthAt 6 = .ok (.aload_n 0, 1) := by decide +kernel
theorem dX1_lengthAt_7 : decode cX1_lengthAt 7 = .ok (.iload_n 2, 1) := by decide +kernel
theorem dX1_lengthAt_8 : decode cX1_lengthAt 8 = .ok (.invokevirtual 72, 3) := by decide +kernel
theorem dX1_lengthAt_11 : decode cX1_lengthAt 11 = .ok (.aload_n 0, 1) := by decide +kernel
theorem dX1_lengthAt_12 : decode cX1_lengthAt 12 = .ok (.iload_n 2, 1) := by decide +kernel
theorem dX1_lengthAt_13 : decode cX1_lengthAt 13 = .ok (.invokevirtual 75, 3) := by decide +kernel
theorem dX1_lengthAt_16 : decode cX1_lengthAt 16 = .ok (.aload_n 0, 1) := by decide +kernel
theorem dX1_lengthAt_17 : decode cX1_lengthAt 17 = .ok (.iload_n 2, 1) := by decide +kernel
theorem dX1_lengthAt_18 : decode cX1_lengthAt 18 = .ok (.invokevirtual 66, 3) := by decide +kernel
theorem dX1_lengthAt_21 : decode cX1_lengthAt 21 = .ok (.aload_n 0, 1) := by decide +kernel
theorem dX1_lengthAt_22 : decode cX1_lengthAt 22 = .ok (.iload_n 2, 1) := by decide +kernel
theorem dX1_lengthAt_23 : decode cX1_lengthAt 23 = .ok (.invokevirtual 69, 3) := by decide +kernel
theorem dX1_lengthAt_26 : decode cX1_lengthAt 26 = .ok (.invokestatic 78, 3) := by decide +kernel
theorem dX1_lengthAt_29 : decode cX1_lengthAt 29 = .ok (.ireturn, 1) := by decide +kernel
theorem dX1_cornerSquare_0 : decode cX1_cornerSquare 0 = .ok (.aload_n 0, 1) := by decide +kernel
theorem dX1_cornerSquare_1 : decode cX1_cornerSquare 1 = .ok (.iload_n 1, 1) := by decide +kernel
theorem dX1_cornerSquare_2 : decode cX1_cornerSquare 2 = .ok (.invokevirtual 120, 3) := by decide +kernel
theorem dX1_cornerSquare_5 : decode cX1_cornerSquare 5 = .ok (.istore_n 3, 1) := by decide +kernel
theorem dX1_cornerSquare_6 : decode cX1_cornerSquare 6 = .ok (.aload_n 0, 1) := by decide +kernel
theorem dX1_cornerSquare_7 : decode cX1_cornerSquare 7 = .ok (.iload_n 1, 1) := by decide +kernel
theorem dX1_cornerSquare_8 : decode cX1_cornerSquare 8 = .ok (.iconst 1, 1) := by decide +kernel
theorem dX1_cornerSquare_9 : decode cX1_cornerSquare 9 = .ok (.iadd, 1) := by decide +kernel
theorem dX1_cornerSquare_10 : decode cX1_cornerSquare 10 = .ok (.invokevirtual 120, 3) := by decide +kernel
theorem dX1_cornerSquare_13 : decode cX1_cornerSquare 13 = .ok (.istore 4, 2) := by decide +kernel
theorem dX1_cornerSquare_15 : decode cX1_cornerSquare 15 = .ok (.aload_n 0, 1) := by decide +kernel
theorem dX1_cornerSquare_16 : decode cX1_cornerSquare 16 = .ok (.iload_n 3, 1) := by decide +kernel
theorem dX1_cornerSquare_17 : decode cX1_cornerSquare 17 = .ok (.invokevirtual 66, 3) := by decide +kernel
theorem dX1_cornerSquare_20 : decode cX1_cornerSquare 20 = .ok (.aload_n 0, 1) := by decide +kernel
theorem dX1_cornerSquare_21 : decode cX1_cornerSquare 21 = .ok (.iload_n 3, 1) := by decide +kernel
theorem dX1_cornerSquare_22 : decode cX1_cornerSquare 22 = .ok (.invokevirtual 72, 3) := by decide +kernel
theorem dX1_cornerSquare_25 : decode cX1_cornerSquare 25 = .ok (.isub, 1) := by decide +kernel
theorem dX1_cornerSquare_26 : decode cX1_cornerSquare 26 = .ok (.istore 5, 2) := by decide +kernel
theorem dX1_cornerSquare_28 : decode cX1_cornerSquare 28 = .ok (.aload_n 0, 1) := by decide +kernel
theorem dX1_cornerSquare_29 : decode cX1_cornerSquare 29 = .ok (.iload_n 3, 1) := by decide +kernel
theorem dX1_cornerSquare_30 : decode cX1_cornerSquare 30 = .ok (.invokevirtual 69, 3) := by decide +kernel
theorem dX1_cornerSquare_33 : decode cX1_cornerSquare 33 = .ok (.aload_n 0, 1) := by decide +kernel
theorem dX1_cornerSquare_34 : decode cX1_cornerSquare 34 = .ok (.iload_n 3, 1) := by decide +kernel
theorem dX1_cornerSquare_35 : decode cX1_cornerSquare 35 = .ok (.invokevirtual 75, 3) := by decide +kernel
theorem dX1_cornerSquare_38 : decode cX1_cornerSquare 38 = .ok (.isub, 1) := by decide +kernel
theorem dX1_cornerSquare_39 : decode cX1_cornerSquare 39 = .ok (.istore 6, 2) := by decide +kernel
theorem dX1_cornerSquare_41 : decode cX1_cornerSquare 41 = .ok (.aload_n 0, 1) := by decide +kernel
theorem dX1_cornerSquare_42 : decode cX1_cornerSquare 42 = .ok (.iload 4, 2) := by decide +kernel
theorem dX1_cornerSquare_44 : decode cX1_cornerSquare 44 = .ok (.invokevirtual 66, 3) := by decide +kernel
theorem dX1_cornerSquare_47 : decode cX1_cornerSquare 47 = .ok (.aload_n 0, 1) := by decide +kernel
theorem dX1_cornerSquare_48 : decode cX1_cornerSquare 48 = .ok (.iload 4, 2) := by decide +kernel
theorem dX1_cornerSquare_50 : decode cX1_cornerSquare 50 = .ok (.invokevirtual 72, 3) := by decide +kernel
theorem dX1_cornerSquare_53 : decode cX1_cornerSquare 53 = .ok (.isub, 1) := by decide +kernel
theorem dX1_cornerSquare_54 : decode cX1_cornerSquare 54 = .ok (.istore 7, 2) := by decide +kernel
theorem dX1_cornerSquare_56 : decode cX1_cornerSquare 56 = .ok (.aload_n 0, 1) := by decide +kernel
theorem dX1_cornerSquare_57 : decode cX1_cornerSquare 57 = .ok (.iload 4, 2) := by decide +kernel
theorem dX1_cornerSquare_59 : decode cX1_cornerSquare 59 = .ok (.invokevirtual 69, 3) := by decide +kernel
theorem dX1_cornerSquare_62 : decode cX1_cornerSquare 62 = .ok (.aload_n 0, 1) := by decide +kernel
theorem dX1_cornerSquare_63 : decode cX1_cornerSquare 63 = .ok (.iload 4, 2) := by decide +kernel
theorem dX1_cornerSquare_65 : decode cX1_cornerSquare 65 = .ok (.invokevirtual 75, 3) := by decide +kernel
theorem dX1_cornerSquare_68 : decode cX1_cornerSquare 68 = .ok (.isub, 1) := by decide +kernel
theorem dX1_cornerSquare_69 : decode cX1_cornerSquare 69 = .ok (.istore 8, 2) := by decide +kernel
theorem dX1_cornerSquare_71 : decode cX1_cornerSquare 71 = .ok (.iload 5, 2) := by decide +kernel
theorem dX1_cornerSquare_73 : decode cX1_cornerSquare 73 = .ok (.iload 7, 2) := by decide +kernel
theorem dX1_cornerSquare_75 : decode cX1_cornerSquare 75 = .ok (.imul, 1) := by decide +kernel
theorem dX1_cornerSquare_76 : decode cX1_cornerSquare 76 = .ok (.iload 6, 2) := by decide +kernel
theorem dX1_cornerSquare_78 : decode cX1_cornerSquare 78 = .ok (.iload 8, 2) := by decide +kernel
theorem dX1_cornerSquare_80 : decode cX1_cornerSquare 80 = .ok (.imul, 1) := by decide +kernel
theorem dX1_cornerSquare_81 : decode cX1_cornerSquare 81 = .ok (.iadd, 1) := by decide +kernel
theorem dX1_cornerSquare_82 : decode cX1_cornerSquare 82 = .ok (.ifCond .gt 5, 3) := by decide +kernel
theorem dX1_cornerSquare_85 : decode cX1_cornerSquare 85 = .ok (.iconst 0, 1) := by decide +kernel
theorem dX1_cornerSquare_86 : decode cX1_cornerSquare 86 = .ok (.ireturn, 1) := by decide +kernel
theorem dX1_cornerSquare_87 : decode cX1_cornerSquare 87 = .ok (.iload 5, 2) := by decide +kernel
theorem dX1_cornerSquare_89 : decode cX1_cornerSquare 89 = .ok (.iload 8, 2) := by decide +kernel
theorem dX1_cornerSquare_91 : decode cX1_cornerSquare 91 = .ok (.imul, 1) := by decide +kernel
theorem dX1_cornerSquare_92 : decode cX1_cornerSquare 92 = .ok (.iload 6, 2) := by decide +kernel
theorem dX1_cornerSquare_94 : decode cX1_cornerSquare 94 = .ok (.iload 7, 2) := by decide +kernel
theorem dX1_cornerSquare_96 : decode cX1_cornerSquare 96 = .ok (.imul, 1) := by decide +kernel
theorem dX1_cornerSquare_97 : decode cX1_cornerSquare 97 = .ok (.if_icmp .ne 7, 3) := by decide +kernel
theorem dX1_cornerSquare_100 : decode cX1_cornerSquare 100 = .ok (.iload_n 2, 1) := by decide +kernel
theorem dX1_cornerSquare_101 : decode cX1_cornerSquare 101 = .ok (.goto 6, 3) := by decide +kernel
theorem dX1_cornerSquare_104 : decode cX1_cornerSquare 104 = .ok (.iload_n 2, 1) := by decide +kernel
theorem dX1_cornerSquare_105 : decode cX1_cornerSquare 105 = .ok (.iconst 4, 1) := by decide +kernel
theorem dX1_cornerSquare_106 : decode cX1_cornerSquare 106 = .ok (.idiv, 1) := by decide +kernel
theorem dX1_cornerSquare_107 : decode cX1_cornerSquare 107 = .ok (.ireturn, 1) := by decide +kernel
theorem dX1_wayLength_0 : decode cX1_wayLength 0 = .ok (.iload_n 0, 1) := by decide +kernel
theorem dX1_wayLength_1 : decode cX1_wayLength 1 = .ok (.iload_n 2, 1) := by decide +kernel
theorem dX1_wayLength_2 : decode cX1_wayLength 2 = .ok (.isub, 1) := by decide +kernel
theorem dX1_wayLength_3 : decode cX1_wayLength 3 = .ok (.invokestatic 123, 3) := by decide +kernel
theorem dX1_wayLength_6 : decode cX1_wayLength 6 = .ok (.iload_n 1, 1) := by decide +kernel
theorem dX1_wayLength_7 : decode cX1_wayLength 7 = .ok (.iload_n 3, 1) := by decide +kernel
theorem dX1_wayLength_8 : decode cX1_wayLength 8 = .ok (.isub, 1) := by decide +kernel
theorem dX1_wayLength_9 : decode cX1_wayLength 9 = .ok (.invokestatic 123, 3) := by decide +kernel
theorem dX1_wayLength_12 : decode cX1_wayLength 12 = .ok (.invokestatic 113, 3) := by decide +kernel
theorem dX1_wayLength_15 : decode cX1_wayLength 15 = .ok (.ireturn, 1) := by decide +kernel
theorem dX1_hasCode_0 : decode cX1_hasCode 0 = .ok (.iload_n 1, 1) := by decide +kernel
theorem dX1_hasCode_1 : decode cX1_hasCode 1 = .ok (.ifCond .lt 17, 3) := by decide +kernel
theorem dX1_hasCode_4 : decode cX1_hasCode 4 = .ok (.iload_n 1, 1) := by decide +kernel
theorem dX1_hasCode_5 : decode cX1_hasCode 5 = .ok (.iconst 2, 1) := by decide +kernel
theorem dX1_hasCode_6 : decode cX1_hasCode 6 = .ok (.aload_n 0, 1) := by decide +kernel
theorem dX1_hasCode_7 : decode cX1_hasCode 7 = .ok (.getfield 24, 3) := by decide +kernel
theorem dX1_hasCode_10 : decode cX1_hasCode 10 = .ok (.imul, 1) := by decide +kernel
theorem dX1_hasCode_11 : decode cX1_hasCode 11 = .ok (.if_icmp .ge 7, 3) := by decide +kernel
theorem dX1_hasCode_14 : decode cX1_hasCode 14 = .ok (.iconst 1, 1) := by decide +kernel
theorem dX1_hasCode_15 : decode cX1_hasCode 15 = .ok (.goto 4, 3) := by decide +kernel
theorem dX1_hasCode_18 : decode cX1_hasCode 18 = .ok (.iconst 0, 1) := by decide +kernel
theorem dX1_hasCode_19 : decode cX1_hasCode 19 = .ok (.ireturn, 1) := by decide +kernel
theorem dX1_penOfCode_0 : decode cX1_penOfCode 0 = .ok (.aload_n 0, 1) := by decide +kernel
theorem dX1_penOfCode_1 : decode cX1_penOfCode 1 = .ok (.iload_n 1, 1) := by decide +kernel
theorem dX1_penOfCode_2 : decode cX1_penOfCode 2 = .ok (.invokevirtual 35, 3) := by decide +kernel
theorem dX1_penOfCode_5 : decode cX1_penOfCode 5 = .ok (.ifCond .eq 14, 3) := by decide +kernel
theorem dX1_penOfCode_8 : decode cX1_penOfCode 8 = .ok (.aload_n 0, 1) := by decide +kernel
theorem dX1_penOfCode_9 : decode cX1_penOfCode 9 = .ok (.getfield 9, 3) := by decide +kernel
theorem dX1_penOfCode_12 : decode cX1_penOfCode 12 = .ok (.iload_n 1, 1) := by decide +kernel
theorem dX1_penOfCode_13 : decode cX1_penOfCode 13 = .ok (.iconst 2, 1) := by decide +kernel
theorem dX1_penOfCode_14 : decode cX1_penOfCode 14 = .ok (.idiv, 1) := by decide +kernel
theorem dX1_penOfCode_15 : decode cX1_penOfCode 15 = .ok (.iaload, 1) := by decide +kernel
theorem dX1_penOfCode_16 : decode cX1_penOfCode 16 = .ok (.goto 4, 3) := by decide +kernel
theorem dX1_penOfCode_19 : decode cX1_penOfCode 19 = .ok (.iconst (-1), 1) := by decide +kernel
theorem dX1_penOfCode_20 : decode cX1_penOfCode 20 = .ok (.ireturn, 1) := by decide +kernel
theorem dX1_beginXOf_0 : decode cX1_beginXOf 0 = .ok (.aload_n 0, 1) := by decide +kernel
theorem dX1_beginXOf_1 : decode cX1_beginXOf 1 = .ok (.iload_n 1, 1) := by decide +kernel
theorem dX1_beginXOf_2 : decode cX1_beginXOf 2 = .ok (.invokevirtual 35, 3) := by decide +kernel
theorem dX1_beginXOf_5 : decode cX1_beginXOf 5 = .ok (.ifCond .eq 12, 3) := by decide +kernel
theorem dX1_beginXOf_8 : decode cX1_beginXOf 8 = .ok (.aload_n 0, 1) := by decide +kernel
theorem dX1_beginXOf_9 : decode cX1_beginXOf 9 = .ok (.getfield 15, 3) := by decide +kernel
theorem dX1_beginXOf_12 : decode cX1_beginXOf 12 = .ok (.iload_n 1, 1) := by decide +kernel
theorem dX1_beginXOf_13 : decode cX1_beginXOf 13 = .ok (.iaload, 1) := by decide +kernel
theorem dX1_beginXOf_14 : decode cX1_beginXOf 14 = .ok (.goto 4, 3) := by decide +kernel
theorem dX1_beginXOf_17 : decode cX1_beginXOf 17 = .ok (.iconst 0, 1) := by decide +kernel
theorem dX1_beginXOf_18 : decode cX1_beginXOf 18 = .ok (.ireturn, 1) := by decide +kernel
theorem dX1_beginYOf_0 : decode cX1_beginYOf 0 = .ok (.aload_n 0, 1) := by decide +kernel
theorem dX1_beginYOf_1 : decode cX1_beginYOf 1 = .ok (.iload_n 1, 1) := by decide +kernel
theorem dX1_beginYOf_2 : decode cX1_beginYOf 2 = .ok (.invokevirtual 35, 3) := by decide +kernel
theorem dX1_beginYOf_5 : decode cX1_beginYOf 5 = .ok (.ifCond .eq 12, 3) := by decide +kernel
theorem dX1_beginYOf_8 : decode cX1_beginYOf 8 = .ok (.aload_n 0, 1) := by decide +kernel
theorem dX1_beginYOf_9 : decode cX1_beginYOf 9 = .ok (.getfield 18, 3) := by decide +kernel
theorem dX1_beginYOf_12 : decode cX1_beginYOf 12 = .ok (.iload_n 1, 1) := by decide +kernel
theorem dX1_beginYOf_13 : decode cX1_beginYOf 13 = .ok (.iaload, 1) := by decide +kernel
theorem dX1_beginYOf_14 : decode cX1_beginYOf 14 = .ok (.goto 4, 3) := by decide +kernel
theorem dX1_beginYOf_17 : decode cX1_beginYOf 17 = .ok (.iconst 0, 1) := by decide +kernel
theorem dX1_beginYOf_18 : decode cX1_beginYOf 18 = .ok (.ireturn, 1) := by decide +kernel
theorem dX1_endXOf_0 : decode cX1_endXOf 0 = .ok (.aload_n 0, 1) := by decide +kernel
theorem dX1_endXOf_1 : decode cX1_endXOf 1 = .ok (.iload_n 1, 1) := by decide +kernel
theorem dX1_endXOf_2 : decode cX1_endXOf 2 = .ok (.invokevirtual 35, 3) := by decide +kernel
theorem dX1_endXOf_5 : decode cX1_endXOf 5 = .ok (.ifCond .eq 14, 3) := by decide +kernel
theorem dX1_endXOf_8 : decode cX1_endXOf 8 = .ok (.aload_n 0, 1) := by decide +kernel
theorem dX1_endXOf_9 : decode cX1_endXOf 9 = .ok (.getfield 15, 3) := by decide +kernel
theorem dX1_endXOf_12 : decode cX1_endXOf 12 = .ok (.iload_n 1, 1) := by decide +kernel
theorem dX1_endXOf_13 : decode cX1_endXOf 13 = .ok (.iconst 1, 1) := by decide +kernel
theorem dX1_endXOf_14 : decode cX1_endXOf 14 = .ok (.ixor, 1) := by decide +kernel
theorem dX1_endXOf_15 : decode cX1_endXOf 15 = .ok (.iaload, 1) := by decide +kernel
theorem dX1_endXOf_16 : decode cX1_endXOf 16 = .ok (.goto 4, 3) := by decide +kernel
theorem dX1_endXOf_19 : decode cX1_endXOf 19 = .ok (.iconst 0, 1) := by decide +kernel
theorem dX1_endXOf_20 : decode cX1_endXOf 20 = .ok (.ireturn, 1) := by decide +kernel
theorem dX1_endYOf_0 : decode cX1_endYOf 0 = .ok (.aload_n 0, 1) := by decide +kernel
theorem dX1_endYOf_1 : decode cX1_endYOf 1 = .ok (.iload_n 1, 1) := by decide +kernel
theorem dX1_endYOf_2 : decode cX1_endYOf 2 = .ok (.invokevirtual 35, 3) := by decide +kernel
theorem dX1_endYOf_5 : decode cX1_endYOf 5 = .ok (.ifCond .eq 14, 3) := by decide +kernel
theorem dX1_endYOf_8 : decode cX1_endYOf 8 = .ok (.aload_n 0, 1) := by decide +kernel
theorem dX1_endYOf_9 : decode cX1_endYOf 9 = .ok (.getfield 18, 3) := by decide +kernel
theorem dX1_endYOf_12 : decode cX1_endYOf 12 = .ok (.iload_n 1, 1) := by decide +kernel
theorem dX1_endYOf_13 : decode cX1_endYOf 13 = .ok (.iconst 1, 1) := by decide +kernel
theorem dX1_endYOf_14 : decode cX1_endYOf 14 = .ok (.ixor, 1) := by decide +kernel
theorem dX1_endYOf_15 : decode cX1_endYOf 15 = .ok (.iaload, 1) := by decide +kernel
theorem dX1_endYOf_16 : decode cX1_endYOf 16 = .ok (.goto 4, 3) := by decide +kernel
theorem dX1_endYOf_19 : decode cX1_endYOf 19 = .ok (.iconst 0, 1) := by decide +kernel
theorem dX1_endYOf_20 : decode cX1_endYOf 20 = .ok (.ireturn, 1) := by decide +kernel
end
section
theorem dX5_init_0 : decode cX5_init 0 = .ok (.aload_n 0, 1) := by decide +kernel
theorem dX5_init_1 : decode cX5_init 1 = .ok (.invokespecial 3, 3) := by decide +kernel
theorem dX5_init_4 : decode cX5_init 4 = .ok (.aload_n 0, 1) := by decide +kernel
theorem dX5_init_5 : decode cX5_init 5 = .ok (.new 9, 3) := by decide +kernel
theorem dX5_init_8 : decode cX5_init 8 = .ok (.dup, 1) := by decide +kernel
theorem dX5_init_9 : decode cX5_init 9 = .ok (.invokespecial 11, 3) := by decide +kernel
theorem dX5_init_12 : decode cX5_init 12 = .ok (.putfield 12, 3) := by decide +kernel
theorem dX5_init_15 : decode cX5_init 15 = .ok (.aload_n 0, 1) := by decide +kernel
theorem dX5_init_16 : decode cX5_init 16 = .ok (.new 16, 3) := by decide +kernel
theorem dX5_init_19 : decode cX5_init 19 = .ok (.dup, 1) := by decide +kernel
theorem dX5_init_20 : decode cX5_init 20 = .ok (.invokespecial 18, 3) := by decide +kernel
theorem dX5_init_23 : decode cX5_init 23 = .ok (.putfield 19, 3) := by decide +kernel
theorem dX5_init_26 : decode cX5_init 26 = .ok (.aload_n 0, 1) := by decide +kernel
theorem dX5_init_27 : decode cX5_init 27 = .ok (.new 23, 3) := by decide +kernel
theorem dX5_init_30 : decode cX5_init 30 = .ok (.dup, 1) := by decide +kernel
theorem dX5_init_31 : decode cX5_init 31 = .ok (.invokespecial 25, 3) := by decide +kernel
theorem dX5_init_34 : decode cX5_init 34 = .ok (.putfield 26, 3) := by decide +kernel
theorem dX5_init_37 : decode cX5_init 37 = .ok (.aload_n 0, 1) := by decide +kernel
theorem dX5_init_38 : decode cX5_init 38 = .ok (.new 30, 3) := by decide +kernel
theorem dX5_init_41 : decode cX5_init 41 = .ok (.dup, 1) := by decide +kernel
theorem dX5_init_42 : decode cX5_init 42 = .ok (.invokespecial 32, 3) := by decide +kernel
theorem dX5_init_45 : decode cX5_init 45 = .ok (.putfield 33, 3) := by decide +kernel
theorem dX5_init_48 : decode cX5_init 48 = .ok (.aload_n 0, 1) := by decide +kernel
theorem dX5_init_49 : decode cX5_init 49 = .ok (.new 37, 3) := by decide +kernel
theorem dX5_init_52 : decode cX5_init 52 = .ok (.dup, 1) := by decide +kernel
theorem dX5_init_53 : decode cX5_init 53 = .ok (.invokespecial 39, 3) := by decide +kernel
theorem dX5_init_56 : decode cX5_init 56 = .ok (.putfield 40, 3) := by decide +kernel
theorem dX5_init_59 : decode cX5_init 59 = .ok (.aload_n 0, 1) := by decide +kernel
theorem dX5_init_60 : decode cX5_init 60 = .ok (.bipush 50, 2) := by decide +kernel
theorem dX5_init_62 : decode cX5_init 62 = .ok (.putfield 44, 3) := by decide +kernel
theorem dX5_init_65 : decode cX5_init 65 = .ok (.aload_n 0, 1) := by decide +kernel
theorem dX5_init_66 : decode cX5_init 66 = .ok (.sipush 400, 3) := by decide +kernel
theorem dX5_init_69 : decode cX5_init 69 = .ok (.putfield 48, 3) := by decide +kernel
theorem dX5_init_72 : decode cX5_init 72 = .ok (.aload_n 0, 1) := by decide +kernel
theorem dX5_init_73 : decode cX5_init 73 = .ok (.bipush 10, 2) := by decide +kernel
theorem dX5_init_75 : decode cX5_init 75 = .ok (.putfield 51, 3) := by decide +kernel
theorem dX5_init_78 : decode cX5_init 78 = .ok (.return_, 1) := by decide +kernel
theorem dX5_addStroke_0 : decode cX5_addStroke 0 = .ok (.iload_n 1, 1) := by decide +kernel
theorem dX5_addStroke_1 : decode cX5_addStroke 1 = .ok (.iload_n 2, 1) := by decide +kernel
theorem dX5_addStroke_2 : decode cX5_addStroke 2 = .ok (.invokestatic 54, 3) := by decide +kernel
theorem dX5_addStroke_5 : decode cX5_addStroke 5 = .ok (.ifCond .eq 31, 3) := by decide +kernel
theorem dX5_addStroke_8 : decode cX5_addStroke 8 = .ok (.iload_n 3, 1) := by decide +kernel
theorem dX5_addStroke_9 : decode cX5_addStroke 9 = .ok (.iload 4, 2) := by decide +kernel
theorem dX5_addStroke_11 : decode cX5_addStroke 11 = .ok (.invokestatic 54, 3) := by decide +kernel
theorem dX5_addStroke_14 : decode cX5_addStroke 14 = .ok (.ifCond .eq 22, 3) := by decide +kernel
theorem dX5_addStroke_17 : decode cX5_addStroke 17 = .ok (.iload 5, 2) := by decide +kernel
theorem dX5_addStroke_19 : decode cX5_addStroke 19 = .ok (.invokestatic 58, 3) := by decide +kernel
theorem dX5_addStroke_22 : decode cX5_addStroke 22 = .ok (.ifCond .eq 14, 3) := by decide +kernel
theorem dX5_addStroke_25 : decode cX5_addStroke 25 = .ok (.iload_n 1, 1) := by decide +kernel
theorem dX5_addStroke_26 : decode cX5_addStroke 26 = .ok (.iload_n 3, 1) := by decide +kernel
theorem dX5_addStroke_27 : decode cX5_addStroke 27 = .ok (.if_icmp .ne 11, 3) := by decide +kernel
theorem dX5_addStroke_30 : decode cX5_addStroke 30 = .ok (.iload_n 2, 1) := by decide +kernel
theorem dX5_addStroke_31 : decode cX5_addStroke 31 = .ok (.iload 4, 2) := by decide +kernel
theorem dX5_addStroke_33 : decode cX5_addStroke 33 = .ok (.if_icmp .ne 5, 3) := by decide +kernel
theorem dX5_addStroke_36 : decode cX5_addStroke 36 = .ok (.iconst (-1), 1) := by decide +kernel
theorem dX5_addStroke_37 : decode cX5_addStroke 37 = .ok (.ireturn, 1) := by decide +kernel
theorem dX5_addStroke_38 : decode cX5_addStroke 38 = .ok (.aload_n 0, 1) := by decide +kernel
theorem dX5_addStroke_39 : decode cX5_addStroke 39 = .ok (.getfield 12, 3) := by decide +kernel
theorem dX5_addStroke_42 : decode cX5_addStroke 42 = .ok (.invokevirtual 62, 3) := by decide +kernel
theorem dX5_addStroke_45 : decode cX5_addStroke 45 = .ok (.bipush 8, 2) := by decide +kernel
theorem dX5_addStroke_47 : decode cX5_addStroke 47 = .ok (.if_icmp .lt 6, 3) := by decide +kernel
theorem dX5_addStroke_50 : decode cX5_addStroke 50 = .ok (.bipush (-2), 2) := by decide +kernel
theorem dX5_addStroke_52 : decode cX5_addStroke 52 = .ok (.ireturn, 1) := by decide +kernel
theorem dX5_addStroke_53 : decode cX5_addStroke 53 = .ok (.aload_n 0, 1) := by decide +kernel
theorem dX5_addStroke_54 : decode cX5_addStroke 54 = .ok (.invokevirtual 66, 3) := by decide +kernel
theorem dX5_addStroke_57 : decode cX5_addStroke 57 = .ok (.aload_n 0, 1) := by decide +kernel
theorem dX5_addStroke_58 : decode cX5_addStroke 58 = .ok (.getfield 12, 3) := by decide +kernel
theorem dX5_addStroke_61 : decode cX5_addStroke 61 = .ok (.iload_n 1, 1) := by decide +kernel
theorem dX5_addStroke_62 : decode cX5_addStroke 62 = .ok (.iload_n 2, 1) := by decide +kernel
theorem dX5_addStroke_63 : decode cX5_addStroke 63 = .ok (.iload_n 3, 1) := by decide +kernel
theorem dX5_addStroke_64 : decode cX5_addStroke 64 = .ok (.iload 4, 2) := by decide +kernel
theorem dX5_addStroke_66 : decode cX5_addStroke 66 = .ok (.iload 5, 2) := by decide +kernel
theorem dX5_addStroke_68 : decode cX5_addStroke 68 = .ok (.invokevirtual 69, 3) := by decide +kernel
theorem dX5_addStroke_71 : decode cX5_addStroke 71 = .ok (.ireturn, 1) := by decide +kernel
theorem dX5_removeStroke_0 : decode cX5_removeStroke 0 = .ok (.aload_n 0, 1) := by decide +kernel
theorem dX5_removeStroke_1 : decode cX5_removeStroke 1 = .ok (.getfield 12, 3) := by decide +kernel
theorem dX5_removeStroke_4 : decode cX5_removeStroke 4 = .ok (.iload_n 1, 1) := by decide +kernel
theorem dX5_removeStroke_5 : decode cX5_removeStroke 5 = .ok (.invokevirtual 73, 3) := by decide +kernel
theorem dX5_removeStroke_8 : decode cX5_removeStroke 8 = .ok (.ifCond .ne 5, 3) := by decide +kernel
theorem dX5_removeStroke_11 : decode cX5_removeStroke 11 = .ok (.iconst (-1), 1) := by decide +kernel
theorem dX5_removeStroke_12 : decode cX5_removeStroke 12 = .ok (.ireturn, 1) := by decide +kernel
theorem dX5_removeStroke_13 : decode cX5_removeStroke 13 = .ok (.aload_n 0, 1) := by decide +kernel
theorem dX5_removeStroke_14 : decode cX5_removeStroke 14 = .ok (.invokevirtual 66, 3) := by decide +kernel
theorem dX5_removeStroke_17 : decode cX5_removeStroke 17 = .ok (.aload_n 0, 1) := by decide +kernel
theorem dX5_removeStroke_18 : decode cX5_removeStroke 18 = .ok (.getfield 12, 3) := by decide +kernel
theorem dX5_removeStroke_21 : decode cX5_removeStroke 21 = .ok (.iload_n 1, 1) := by decide +kernel
theorem dX5_removeStroke_22 : decode cX5_removeStroke 22 = .ok (.invokevirtual 76, 3) := by decide +kernel
theorem dX5_removeStroke_25 : decode cX5_removeStroke 25 = .ok (.aload_n 0, 1) := by decide +kernel
theorem dX5_removeStroke_26 : decode cX5_removeStroke 26 = .ok (.getfield 12, 3) := by decide +kernel
theorem dX5_removeStroke_29 : decode cX5_removeStroke 29 = .ok (.invokevirtual 62, 3) := by decide +kernel
theorem dX5_removeStroke_32 : decode cX5_removeStroke 32 = .ok (.ireturn, 1) := by decide +kernel
theorem dX5_strokeCount_0 : decode cX5_strokeCount 0 = .ok (.aload_n 0, 1) := by decide +kernel
theorem dX5_strokeCount_1 : decode cX5_strokeCount 1 = .ok (.getfield 12, 3) := by decide +kernel
theorem dX5_strokeCount_4 : decode cX5_strokeCount 4 = .ok (.invokevirtual 62, 3) := by decide +kernel
theorem dX5_strokeCount_7 : decode cX5_strokeCount 7 = .ok (.ireturn, 1) := by decide +kernel
theorem dX5_penOf_0 : decode cX5_penOf 0 = .ok (.aload_n 0, 1) := by decide +kernel
theorem dX5_penOf_1 : decode cX5_penOf 1 = .ok (.getfield 12, 3) := by decide +kernel
theorem dX5_penOf_4 : decode cX5_penOf 4 = .ok (.iload_n 1, 1) := by decide +kernel
theorem dX5_penOf_5 : decode cX5_penOf 5 = .ok (.invokevirtual 73, 3) := by decide +kernel
theorem dX5_penOf_8 : decode cX5_penOf 8 = .ok (.ifCond .eq 14, 3) := by decide +kernel
theorem dX5_penOf_11 : decode cX5_penOf 11 = .ok (.aload_n 0, 1) := by decide +kernel
theorem dX5_penOf_12 : decode cX5_penOf 12 = .ok (.getfield 12, 3) := by decide +kernel
theorem dX5_penOf_15 : decode cX5_penOf 15 = .ok (.iload_n 1, 1) := by decide +kernel
theorem dX5_penOf_16 : decode cX5_penOf 16 = .ok (.invokevirtual 80, 3) := by decide +kernel
theorem dX5_penOf_19 : decode cX5_penOf 19 = .ok (.goto 4, 3) := by decide +kernel
theorem dX5_penOf_22 : decode cX5_penOf 22 = .ok (.iconst (-1), 1) := by decide +kernel
theorem dX5_penOf_23 : decode cX5_penOf 23 = .ok (.ireturn, 1) := by decide +kernel
theorem dX5_alikeTo_0 : decode cX5_alikeTo 0 = .ok (.aload_n 0, 1) := by decide +kernel
theorem dX5_alikeTo_1 : decode cX5_alikeTo 1 = .ok (.getfield 12, 3) := by decide +kernel
theorem dX5_alikeTo_4 : decode cX5_alikeTo 4 = .ok (.iload_n 1, 1) := by decide +kernel
theorem dX5_alikeTo_5 : decode cX5_alikeTo 5 = .ok (.invokevirtual 73, 3) := by decide +kernel
theorem dX5_alikeTo_8 : decode cX5_alikeTo 8 = .ok (.ifCond .eq 14, 3) := by decide +kernel
theorem dX5_alikeTo_11 : decode cX5_alikeTo 11 = .ok (.aload_n 0, 1) := by decide +kernel
theorem dX5_alikeTo_12 : decode cX5_alikeTo 12 = .ok (.getfield 12, 3) := by decide +kernel
theorem dX5_alikeTo_15 : decode cX5_alikeTo 15 = .ok (.iload_n 1, 1) := by decide +kernel
theorem dX5_alikeTo_16 : decode cX5_alikeTo 16 = .ok (.invokevirtual 84, 3) := by decide +kernel
theorem dX5_alikeTo_19 : decode cX5_alikeTo 19 = .ok (.goto 4, 3) := by decide +kernel
theorem dX5_alikeTo_22 : decode cX5_alikeTo 22 = .ok (.iconst (-1), 1) := by decide +kernel
theorem dX5_alikeTo_23 : decode cX5_alikeTo 23 = .ok (.ireturn, 1) := by decide +kernel
theorem dX5_coveredBy_0 : decode cX5_coveredBy 0 = .ok (.aload_n 0, 1) := by decide +kernel
theorem dX5_coveredBy_1 : decode cX5_coveredBy 1 = .ok (.getfield 12, 3) := by decide +kernel
theorem dX5_coveredBy_4 : decode cX5_coveredBy 4 = .ok (.iload_n 1, 1) := by decide +kernel
theorem dX5_coveredBy_5 : decode cX5_coveredBy 5 = .ok (.invokevirtual 73, 3) := by decide +kernel
theorem dX5_coveredBy_8 : decode cX5_coveredBy 8 = .ok (.ifCond .eq 14, 3) := by decide +kernel
theorem dX5_coveredBy_11 : decode cX5_coveredBy 11 = .ok (.aload_n 0, 1) := by decide +kernel
theorem dX5_coveredBy_12 : decode cX5_coveredBy 12 = .ok (.getfield 12, 3) := by decide +kernel
theorem dX5_coveredBy_15 : decode cX5_coveredBy 15 = .ok (.iload_n 1, 1) := by decide +kernel
theorem dX5_coveredBy_16 : decode cX5_coveredBy 16 = .ok (.invokevirtual 87, 3) := by decide +kernel
theorem dX5_coveredBy_19 : decode cX5_coveredBy 19 = .ok (.goto 4, 3) := by decide +kernel
theorem dX5_coveredBy_22 : decode cX5_coveredBy 22 = .ok (.iconst (-1), 1) := by decide +kernel
theorem dX5_coveredBy_23 : decode cX5_coveredBy 23 = .ok (.ireturn, 1) := by decide +kernel
theorem dX5_removeDuplicates_0 : decode cX5_removeDuplicates 0 = .ok (.aload_n 0, 1) := by decide +kernel
theorem dX5_removeDuplicates_1 : decode cX5_removeDuplicates 1 = .ok (.invokevirtual 66, 3) := by decide +kernel
theorem dX5_removeDuplicates_4 : decode cX5_removeDuplicates 4 = .ok (.aload_n 0, 1) := by decide +kernel
theorem dX5_removeDuplicates_5 : decode cX5_removeDuplicates 5 = .ok (.getfield 12, 3) := by decide +kernel
theorem dX5_removeDuplicates_8 : decode cX5_removeDuplicates 8 = .ok (.invokevirtual 90, 3) := by decide +kernel
theorem dX5_removeDuplicates_11 : decode cX5_removeDuplicates 11 = .ok (.ireturn, 1) := by decide +kernel
theorem dX5_leastRuns_0 : decode cX5_leastRuns 0 = .ok (.iload_n 1, 1) := by decide +kernel
theorem dX5_leastRuns_1 : decode cX5_leastRuns 1 = .ok (.invokestatic 58, 3) := by decide +kernel
theorem dX5_leastRuns_4 : decode cX5_leastRuns 4 = .ok (.ifCond .eq 18, 3) := by decide +kernel
theorem dX5_leastRuns_7 : decode cX5_leastRuns 7 = .ok (.aload_n 0, 1) := by decide +kernel
theorem dX5_leastRuns_8 : decode cX5_leastRuns 8 = .ok (.getfield 33, 3) := by decide +kernel
theorem dX5_leastRuns_11 : decode cX5_leastRuns 11 = .ok (.aload_n 0, 1) := by decide +kernel
theorem dX5_leastRuns_12 : decode cX5_leastRuns 12 = .ok (.getfield 12, 3) := by decide +kernel
theorem dX5_leastRuns_15 : decode cX5_leastRuns 15 = .ok (.iload_n 1, 1) := by decide +kernel
theorem dX5_leastRuns_16 : decode cX5_leastRuns 16 = .ok (.invokevirtual 93, 3) := by decide +kernel
theorem dX5_leastRuns_19 : decode cX5_leastRuns 19 = .ok (.goto 4, 3) := by decide +kernel
theorem dX5_leastRuns_22 : decode cX5_leastRuns 22 = .ok (.iconst (-1), 1) := by decide +kernel
theorem dX5_leastRuns_23 : decode cX5_leastRuns 23 = .ok (.ireturn, 1) := by decide +kernel
theorem dX5_strokeAt_0 : decode cX5_strokeAt 0 = .ok (.aload_n 0, 1) := by decide +kernel
theorem dX5_strokeAt_1 : decode cX5_strokeAt 1 = .ok (.iload_n 1, 1) := by decide +kernel
theorem dX5_strokeAt_2 : decode cX5_strokeAt 2 = .ok (.invokevirtual 97, 3) := by decide +kernel
theorem dX5_strokeAt_5 : decode cX5_strokeAt 5 = .ok (.istore_n 2, 1) := by decide +kernel
theorem dX5_strokeAt_6 : decode cX5_strokeAt 6 = .ok (.iload_n 2, 1) := by decide +kernel
theorem dX5_strokeAt_7 : decode cX5_strokeAt 7 = .ok (.ifCond .ge 7, 3) := by decide +kernel
theorem dX5_strokeAt_10 : decode cX5_strokeAt 10 = .ok (.iload_n 2, 1) := by decide +kernel
theorem dX5_strokeAt_11 : decode cX5_strokeAt 11 = .ok (.goto 6, 3) := by decide +kernel
theorem dX5_strokeAt_14 : decode cX5_strokeAt 14 = .ok (.iload_n 2, 1) := by decide +kernel
theorem dX5_strokeAt_15 : decode cX5_strokeAt 15 = .ok (.iconst 2, 1) := by decide +kernel
theorem dX5_strokeAt_16 : decode cX5_strokeAt 16 = .ok (.idiv, 1) := by decide +kernel
theorem dX5_strokeAt_17 : decode cX5_strokeAt 17 = .ok (.ireturn, 1) := by decide +kernel
theorem dX5_directionAt_0 : decode cX5_directionAt 0 = .ok (.aload_n 0, 1) := by decide +kernel
theorem dX5_directionAt_1 : decode cX5_directionAt 1 = .ok (.iload_n 1, 1) := by decide +kernel
theorem dX5_directionAt_2 : decode cX5_directionAt 2 = .ok (.invokevirtual 97, 3) := by decide +kernel
theorem dX5_directionAt_5 : decode cX5_directionAt 5 = .ok (.istore_n 2, 1) := by decide +kernel
theorem dX5_directionAt_6 : decode cX5_directionAt 6 = .ok (.iload_n 2, 1) := by decide +kernel
theorem dX5_directionAt_7 : decode cX5_directionAt 7 = .ok (.ifCond .ge 7, 3) := by decide +kernel
theorem dX5_directionAt_10 : decode cX5_directionAt 10 = .ok (.iload_n 2, 1) := by decide +kernel
theorem dX5_directionAt_11 : decode cX5_directionAt 11 = .ok (.goto 6, 3) := by decide +kernel
theorem dX5_directionAt_14 : decode cX5_directionAt 14 = .ok (.iload_n 2, 1) := by decide +kernel
theorem dX5_directionAt_15 : decode cX5_directionAt 15 = .ok (.iconst 2, 1) := by decide +kernel
theorem dX5_directionAt_16 : decode cX5_directionAt 16 = .ok (.irem, 1) := by decide +kernel
theorem dX5_directionAt_17 : decode cX5_directionAt 17 = .ok (.ireturn, 1) := by decide +kernel
theorem dX5_movePosition_0 : decode cX5_movePosition 0 = .ok (.aload_n 0, 1) := by decide +kernel
theorem dX5_movePosition_1 : decode cX5_movePosition 1 = .ok (.getfield 12, 3) := by decide +kernel
theorem dX5_movePosition_4 : decode cX5_movePosition 4 = .ok (.iload_n 1, 1) := by decide +kernel
theorem dX5_movePosition_5 : decode cX5_movePosition 5 = .ok (.invokevirtual 100, 3) := by decide +kernel
theorem dX5_movePosition_8 : decode cX5_movePosition 8 = .ok (.ifCond .eq 14, 3) := by decide +kernel
theorem dX5_movePosition_11 : decode cX5_movePosition 11 = .ok (.aload_n 0, 1) := by decide +kernel
theorem dX5_movePosition_12 : decode cX5_movePosition 12 = .ok (.getfield 12, 3) := by decide +kernel
theorem dX5_movePosition_15 : decode cX5_movePosition 15 = .ok (.iload_n 2, 1) := by decide +kernel
theorem dX5_movePosition_16 : decode cX5_movePosition 16 = .ok (.invokevirtual 100, 3) := by decide +kernel
theorem dX5_movePosition_19 : decode cX5_movePosition 19 = .ok (.ifCond .ne 5, 3) := by decide +kernel
theorem dX5_movePosition_22 : decode cX5_movePosition 22 = .ok (.iconst (-1), 1) := by decide +kernel
theorem dX5_movePosition_23 : decode cX5_movePosition 23 = .ok (.ireturn, 1) := by decide +kernel
theorem dX5_movePosition_24 : decode cX5_movePosition 24 = .ok (.aload_n 0, 1) := by decide +kernel
theorem dX5_movePosition_25 : decode cX5_movePosition 25 = .ok (.invokevirtual 66, 3) := by decide +kernel
theorem dX5_movePosition_28 : decode cX5_movePosition 28 = .ok (.aload_n 0, 1) := by decide +kernel
theorem dX5_movePosition_29 : decode cX5_movePosition 29 = .ok (.getfield 12, 3) := by decide +kernel
theorem dX5_movePosition_32 : decode cX5_movePosition 32 = .ok (.iload_n 1, 1) := by decide +kernel
theorem dX5_movePosition_33 : decode cX5_movePosition 33 = .ok (.iload_n 2, 1) := by decide +kernel
theorem dX5_movePosition_34 : decode cX5_movePosition 34 = .ok (.invokevirtual 103, 3) := by decide +kernel
theorem dX5_movePosition_37 : decode cX5_movePosition 37 = .ok (.aload_n 0, 1) := by decide +kernel
theorem dX5_movePosition_38 : decode cX5_movePosition 38 = .ok (.getfield 12, 3) := by decide +kernel
theorem dX5_movePosition_41 : decode cX5_movePosition 41 = .ok (.iload_n 2, 1) := by decide +kernel
theorem dX5_movePosition_42 : decode cX5_movePosition 42 = .ok (.invokevirtual 107, 3) := by decide +kernel
theorem dX5_movePosition_45 : decode cX5_movePosition 45 = .ok (.iconst 2, 1) := by decide +kernel
theorem dX5_movePosition_46 : decode cX5_movePosition 46 = .ok (.idiv, 1) := by decide +kernel
theorem dX5_movePosition_47 : decode cX5_movePosition 47 = .ok (.ireturn, 1) := by decide +kernel
theorem dX5_turnPosition_0 : decode cX5_turnPosition 0 = .ok (.aload_n 0, 1) := by decide +kernel
theorem dX5_turnPosition_1 : decode cX5_turnPosition 1 = .ok (.getfield 12, 3) := by decide +kernel
theorem dX5_turnPosition_4 : decode cX5_turnPosition 4 = .ok (.iload_n 1, 1) := by decide +kernel
theorem dX5_turnPosition_5 : decode cX5_turnPosition 5 = .ok (.invokevirtual 100, 3) := by decide +kernel
theorem dX5_turnPosition_8 : decode cX5_turnPosition 8 = .ok (.ifCond .ne 5, 3) := by decide +kernel
theorem dX5_turnPosition_11 : decode cX5_turnPosition 11 = .ok (.iconst (-1), 1) := by decide +kernel
theorem dX5_turnPosition_12 : decode cX5_turnPosition 12 = .ok (.ireturn, 1) := by decide +kernel
theorem dX5_turnPosition_13 : decode cX5_turnPosition 13 = .ok (.aload_n 0, 1) := by decide +kernel
theorem dX5_turnPosition_14 : decode cX5_turnPosition 14 = .ok (.invokevirtual 66, 3) := by decide +kernel
theorem dX5_turnPosition_17 : decode cX5_turnPosition 17 = .ok (.aload_n 0, 1) := by decide +kernel
theorem dX5_turnPosition_18 : decode cX5_turnPosition 18 = .ok (.getfield 12, 3) := by decide +kernel
theorem dX5_turnPosition_21 : decode cX5_turnPosition 21 = .ok (.iload_n 1, 1) := by decide +kernel
theorem dX5_turnPosition_22 : decode cX5_turnPosition 22 = .ok (.invokevirtual 110, 3) := by decide +kernel
theorem dX5_turnPosition_25 : decode cX5_turnPosition 25 = .ok (.aload_n 0, 1) := by decide +kernel
theorem dX5_turnPosition_26 : decode cX5_turnPosition 26 = .ok (.getfield 12, 3) := by decide +kernel
theorem dX5_turnPosition_29 : decode cX5_turnPosition 29 = .ok (.iload_n 1, 1) := by decide +kernel
theorem dX5_turnPosition_30 : decode cX5_turnPosition 30 = .ok (.invokevirtual 107, 3) := by decide +kernel
theorem dX5_turnPosition_33 : decode cX5_turnPosition 33 = .ok (.iconst 2, 1) := by decide +kernel
theorem dX5_turnPosition_34 : decode cX5_turnPosition 34 = .ok (.irem, 1) := by decide +kernel
theorem dX5_turnPosition_35 : decode cX5_turnPosition 35 = .ok (.ireturn, 1) := by decide +kernel
theorem dX5_cost_0 : decode cX5_cost 0 = .ok (.aload_n 0, 1) := by decide +kernel
theorem dX5_cost_1 : decode cX5_cost 1 = .ok (.getfield 12, 3) := by decide +kernel
theorem dX5_cost_4 : decode cX5_cost 4 = .ok (.aload_n 0, 1) := by decide +kernel
theorem dX5_cost_5 : decode cX5_cost 5 = .ok (.getfield 44, 3) := by decide +kernel
theorem dX5_cost_8 : decode cX5_cost 8 = .ok (.invokevirtual 113, 3) := by decide +kernel
theorem dX5_cost_11 : decode cX5_cost 11 = .ok (.ireturn, 1) := by decide +kernel
theorem dX5_penChanges_0 : decode cX5_penChanges 0 = .ok (.aload_n 0, 1) := by decide +kernel
theorem dX5_penChanges_1 : decode cX5_penChanges 1 = .ok (.getfield 12, 3) := by decide +kernel
theorem dX5_penChanges_4 : decode cX5_penChanges 4 = .ok (.invokevirtual 116, 3) := by decide +kernel
theorem dX5_penChanges_7 : decode cX5_penChanges 7 = .ok (.ireturn, 1) := by decide +kernel
theorem dX5_runCount_0 : decode cX5_runCount 0 = .ok (.aload_n 0, 1) := by decide +kernel
theorem dX5_runCount_1 : decode cX5_runCount 1 = .ok (.getfield 12, 3) := by decide +kernel
theorem dX5_runCount_4 : decode cX5_runCount 4 = .ok (.invokevirtual 119, 3) := by decide +kernel
theorem dX5_runCount_7 : decode cX5_runCount 7 = .ok (.ireturn, 1) := by decide +kernel
theorem dX5_runLength_0 : decode cX5_runLength 0 = .ok (.iload_n 1, 1) := by decide +kernel
theorem dX5_runLength_1 : decode cX5_runLength 1 = .ok (.ifCond .ge 5, 3) := by decide +kernel
theorem dX5_runLength_4 : decode cX5_runLength 4 = .ok (.iconst (-1), 1) := by decide +kernel
theorem dX5_runLength_5 : decode cX5_runLength 5 = .ok (.ireturn, 1) := by decide +kernel
theorem dX5_runLength_6 : decode cX5_runLength 6 = .ok (.aload_n 0, 1) := by decide +kernel
theorem dX5_runLength_7 : decode cX5_runLength 7 = .ok (.getfield 12, 3) := by decide +kernel
theorem dX5_runLength_10 : decode cX5_runLength 10 = .ok (.iload_n 1, 1) := by decide +kernel
theorem dX5_runLength_11 : decode cX5_runLength 11 = .ok (.invokevirtual 122, 3) := by decide +kernel
theorem dX5_runLength_14 : decode cX5_runLength 14 = .ok (.istore_n 2, 1) := by decide +kernel
theorem dX5_runLength_15 : decode cX5_runLength 15 = .ok (.iload_n 2, 1) := by decide +kernel
theorem dX5_runLength_16 : decode cX5_runLength 16 = .ok (.ifCond .ne 8, 3) := by decide +kernel
theorem dX5_runLength_19 : decode cX5_runLength 19 = .ok (.bipush (-3), 2) := by decide +kernel
theorem dX5_runLength_21 : decode cX5_runLength 21 = .ok (.goto 4, 3) := by decide +kernel
theorem dX5_runLength_24 : decode cX5_runLength 24 = .ok (.iload_n 2, 1) := by decide +kernel
theorem dX5_runLength_25 : decode cX5_runLength 25 = .ok (.ireturn, 1) := by decide +kernel
theorem dX5_setPenCost_0 : decode cX5_setPenCost 0 = .ok (.iload_n 1, 1) := by decide +kernel
theorem dX5_setPenCost_1 : decode cX5_setPenCost 1 = .ok (.iconst 0, 1) := by decide +kernel
theorem dX5_setPenCost_2 : decode cX5_setPenCost 2 = .ok (.sipush 500, 3) := by decide +kernel
theorem dX5_setPenCost_5 : decode cX5_setPenCost 5 = .ok (.invokestatic 125, 3) := by decide +kernel
theorem dX5_setPenCost_8 : decode cX5_setPenCost 8 = .ok (.ifCond .ne 5, 3) := by decide +kernel
theorem dX5_setPenCost_11 : decode cX5_setPenCost 11 = .ok (.iconst (-1), 1) := by decide +kernel
theorem dX5_setPenCost_12 : decode cX5_setPenCost 12 = .ok (.ireturn, 1) := by decide +kernel
theorem dX5_setPenCost_13 : decode cX5_setPenCost 13 = .ok (.aload_n 0, 1) := by decide +kernel
theorem dX5_setPenCost_14 : decode cX5_setPenCost 14 = .ok (.getfield 44, 3) := by decide +kernel
theorem dX5_setPenCost_17 : decode cX5_setPenCost 17 = .ok (.istore_n 2, 1) := by decide +kernel
theorem dX5_setPenCost_18 : decode cX5_setPenCost 18 = .ok (.aload_n 0, 1) := by decide +kernel
theorem dX5_setPenCost_19 : decode cX5_setPenCost 19 = .ok (.iload_n 1, 1) := by decide +kernel
theorem dX5_setPenCost_20 : decode cX5_setPenCost 20 = .ok (.putfield 44, 3) := by decide +kernel
theorem dX5_setPenCost_23 : decode cX5_setPenCost 23 = .ok (.aload_n 0, 1) := by decide +kernel
theorem dX5_setPenCost_24 : decode cX5_setPenCost 24 = .ok (.getfield 26, 3) := by decide +kernel
theorem dX5_setPenCost_27 : decode cX5_setPenCost 27 = .ok (.invokevirtual 129, 3) := by decide +kernel
theorem dX5_setPenCost_30 : decode cX5_setPenCost 30 = .ok (.iload_n 2, 1) := by decide +kernel
theorem dX5_setPenCost_31 : decode cX5_setPenCost 31 = .ok (.ireturn, 1) := by decide +kernel
theorem dX5_bestCost_0 : decode cX5_bestCost 0 = .ok (.aload_n 0, 1) := by decide +kernel
theorem dX5_bestCost_1 : decode cX5_bestCost 1 = .ok (.getfield 26, 3) := by decide +kernel
theorem dX5_bestCost_4 : decode cX5_bestCost 4 = .ok (.aload_n 0, 1) := by decide +kernel
theorem dX5_bestCost_5 : decode cX5_bestCost 5 = .ok (.getfield 12, 3) := by decide +kernel
theorem dX5_bestCost_8 : decode cX5_bestCost 8 = .ok (.aload_n 0, 1) := by decide +kernel
theorem dX5_bestCost_9 : decode cX5_bestCost 9 = .ok (.getfield 44, 3) := by decide +kernel
theorem dX5_bestCost_12 : decode cX5_bestCost 12 = .ok (.invokevirtual 132, 3) := by decide +kernel
theorem dX5_bestCost_15 : decode cX5_bestCost 15 = .ok (.aload_n 0, 1) := by decide +kernel
theorem dX5_bestCost_16 : decode cX5_bestCost 16 = .ok (.getfield 26, 3) := by decide +kernel
theorem dX5_bestCost_19 : decode cX5_bestCost 19 = .ok (.invokevirtual 136, 3) := by decide +kernel
theorem dX5_bestCost_22 : decode cX5_bestCost 22 = .ok (.ireturn, 1) := by decide +kernel
theorem dX5_bestAt_0 : decode cX5_bestAt 0 = .ok (.iload_n 1, 1) := by decide +kernel
theorem dX5_bestAt_1 : decode cX5_bestAt 1 = .ok (.ifCond .ge 5, 3) := by decide +kernel
theorem dX5_bestAt_4 : decode cX5_bestAt 4 = .ok (.iconst (-1), 1) := by decide +kernel
theorem dX5_bestAt_5 : decode cX5_bestAt 5 = .ok (.ireturn, 1) := by decide +kernel
theorem dX5_bestAt_6 : decode cX5_bestAt 6 = .ok (.aload_n 0, 1) := by decide +kernel
theorem dX5_bestAt_7 : decode cX5_bestAt 7 = .ok (.getfield 12, 3) := by decide +kernel
theorem dX5_bestAt_10 : decode cX5_bestAt 10 = .ok (.iload_n 1, 1) := by decide +kernel
theorem dX5_bestAt_11 : decode cX5_bestAt 11 = .ok (.invokevirtual 100, 3) := by decide +kernel
theorem dX5_bestAt_14 : decode cX5_bestAt 14 = .ok (.ifCond .ne 6, 3) := by decide +kernel
theorem dX5_bestAt_17 : decode cX5_bestAt 17 = .ok (.bipush (-3), 2) := by decide +kernel
theorem dX5_bestAt_19 : decode cX5_bestAt 19 = .ok (.ireturn, 1) := by decide +kernel
theorem dX5_bestAt_20 : decode cX5_bestAt 20 = .ok (.aload_n 0, 1) := by decide +kernel
theorem dX5_bestAt_21 : decode cX5_bestAt 21 = .ok (.getfield 26, 3) := by decide +kernel
theorem dX5_bestAt_24 : decode cX5_bestAt 24 = .ok (.aload_n 0, 1) := by decide +kernel
theorem dX5_bestAt_25 : decode cX5_bestAt 25 = .ok (.getfield 12, 3) := by decide +kernel
theorem dX5_bestAt_28 : decode cX5_bestAt 28 = .ok (.aload_n 0, 1) := by decide +kernel
theorem dX5_bestAt_29 : decode cX5_bestAt 29 = .ok (.getfield 44, 3) := by decide +kernel
theorem dX5_bestAt_32 : decode cX5_bestAt 32 = .ok (.invokevirtual 132, 3) := by decide +kernel
theorem dX5_bestAt_35 : decode cX5_bestAt 35 = .ok (.aload_n 0, 1) := by decide +kernel
theorem dX5_bestAt_36 : decode cX5_bestAt 36 = .ok (.getfield 26, 3) := by decide +kernel
theorem dX5_bestAt_39 : decode cX5_bestAt 39 = .ok (.iload_n 1, 1) := by decide +kernel
theorem dX5_bestAt_40 : decode cX5_bestAt 40 = .ok (.invokevirtual 139, 3) := by decide +kernel
theorem dX5_bestAt_43 : decode cX5_bestAt 43 = .ok (.ireturn, 1) := by decide +kernel
theorem dX5_adoptBest_0 : decode cX5_adoptBest 0 = .ok (.aload_n 0, 1) := by decide +kernel
theorem dX5_adoptBest_1 : decode cX5_adoptBest 1 = .ok (.invokevirtual 66, 3) := by decide +kernel
theorem dX5_adoptBest_4 : decode cX5_adoptBest 4 = .ok (.aload_n 0, 1) := by decide +kernel
theorem dX5_adoptBest_5 : decode cX5_adoptBest 5 = .ok (.getfield 26, 3) := by decide +kernel
theorem dX5_adoptBest_8 : decode cX5_adoptBest 8 = .ok (.aload_n 0, 1) := by decide +kernel
theorem dX5_adoptBest_9 : decode cX5_adoptBest 9 = .ok (.getfield 12, 3) := by decide +kernel
theorem dX5_adoptBest_12 : decode cX5_adoptBest 12 = .ok (.aload_n 0, 1) := by decide +kernel
theorem dX5_adoptBest_13 : decode cX5_adoptBest 13 = .ok (.getfield 44, 3) := by decide +kernel
theorem dX5_adoptBest_16 : decode cX5_adoptBest 16 = .ok (.invokevirtual 132, 3) := by decide +kernel
theorem dX5_adoptBest_19 : decode cX5_adoptBest 19 = .ok (.iconst 0, 1) := by decide +kernel
theorem dX5_adoptBest_20 : decode cX5_adoptBest 20 = .ok (.istore_n 1, 1) := by decide +kernel
theorem dX5_adoptBest_21 : decode cX5_adoptBest 21 = .ok (.iload_n 1, 1) := by decide +kernel
theorem dX5_adoptBest_22 : decode cX5_adoptBest 22 = .ok (.aload_n 0, 1) := by decide +kernel
theorem dX5_adoptBest_23 : decode cX5_adoptBest 23 = .ok (.getfield 12, 3) := by decide +kernel
theorem dX5_adoptBest_26 : decode cX5_adoptBest 26 = .ok (.invokevirtual 62, 3) := by decide +kernel
theorem dX5_adoptBest_29 : decode cX5_adoptBest 29 = .ok (.if_icmp .ge 25, 3) := by decide +kernel
theorem dX5_adoptBest_32 : decode cX5_adoptBest 32 = .ok (.aload_n 0, 1) := by decide +kernel
theorem dX5_adoptBest_33 : decode cX5_adoptBest 33 = .ok (.getfield 12, 3) := by decide +kernel
theorem dX5_adoptBest_36 : decode cX5_adoptBest 36 = .ok (.iload_n 1, 1) := by decide +kernel
theorem dX5_adoptBest_37 : decode cX5_adoptBest 37 = .ok (.aload_n 0, 1) := by decide +kernel
theorem dX5_adoptBest_38 : decode cX5_adoptBest 38 = .ok (.getfield 26, 3) := by decide +kernel
theorem dX5_adoptBest_41 : decode cX5_adoptBest 41 = .ok (.iload_n 1, 1) := by decide +kernel
theorem dX5_adoptBest_42 : decode cX5_adoptBest 42 = .ok (.invokevirtual 139, 3) := by decide +kernel
theorem dX5_adoptBest_45 : decode cX5_adoptBest 45 = .ok (.invokevirtual 140, 3) := by decide +kernel
theorem dX5_adoptBest_48 : decode cX5_adoptBest 48 = .ok (.iinc 1 1, 3) := by decide +kernel
theorem dX5_adoptBest_51 : decode cX5_adoptBest 51 = .ok (.goto (-30), 3) := by decide +kernel
theorem dX5_adoptBest_54 : decode cX5_adoptBest 54 = .ok (.aload_n 0, 1) := by decide +kernel
theorem dX5_adoptBest_55 : decode cX5_adoptBest 55 = .ok (.getfield 12, 3) := by decide +kernel
theorem dX5_adoptBest_58 : decode cX5_adoptBest 58 = .ok (.aload_n 0, 1) := by decide +kernel
theorem dX5_adoptBest_59 : decode cX5_adoptBest 59 = .ok (.getfield 44, 3) := by decide +kernel
theorem dX5_adoptBest_62 : decode cX5_adoptBest 62 = .ok (.invokevirtual 113, 3) := by decide +kernel
theorem dX5_adoptBest_65 : decode cX5_adoptBest 65 = .ok (.ireturn, 1) := by decide +kernel
theorem dX5_adoptNearest_0 : decode cX5_adoptNearest 0 = .ok (.aload_n 0, 1) := by decide +kernel
theorem dX5_adoptNearest_1 : decode cX5_adoptNearest 1 = .ok (.invokevirtual 66, 3) := by decide +kernel
theorem dX5_adoptNearest_4 : decode cX5_adoptNearest 4 = .ok (.aload_n 0, 1) := by decide +kernel
theorem dX5_adoptNearest_5 : decode cX5_adoptNearest 5 = .ok (.getfield 12, 3) := by decide +kernel
theorem dX5_adoptNearest_8 : decode cX5_adoptNearest 8 = .ok (.aload_n 0, 1) := by decide +kernel
theorem dX5_adoptNearest_9 : decode cX5_adoptNearest 9 = .ok (.getfield 44, 3) := by decide +kernel
theorem dX5_adoptNearest_12 : decode cX5_adoptNearest 12 = .ok (.invokevirtual 143, 3) := by decide +kernel
theorem dX5_adoptNearest_15 : decode cX5_adoptNearest 15 = .ok (.aload_n 0, 1) := by decide +kernel
theorem dX5_adoptNearest_16 : decode cX5_adoptNearest 16 = .ok (.getfield 12, 3) := by decide +kernel
theorem dX5_adoptNearest_19 : decode cX5_adoptNearest 19 = .ok (.aload_n 0, 1) := by decide +kernel
theorem dX5_adoptNearest_20 : decode cX5_adoptNearest 20 = .ok (.getfield 44, 3) := by decide +kernel
theorem dX5_adoptNearest_23 : decode cX5_adoptNearest 23 = .ok (.invokevirtual 113, 3) := by decide +kernel
theorem dX5_adoptNearest_26 : decode cX5_adoptNearest 26 = .ok (.ireturn, 1) := by decide +kernel
theorem dX5_setSquareLimit_0 : decode cX5_setSquareLimit 0 = .ok (.iload_n 1, 1) := by decide +kernel
theorem dX5_setSquareLimit_1 : decode cX5_setSquareLimit 1 = .ok (.iconst 1, 1) := by decide +kernel
theorem dX5_setSquareLimit_2 : decode cX5_setSquareLimit 2 = .ok (.sipush 9999, 3) := by decide +kernel
theorem dX5_setSquareLimit_5 : decode cX5_setSquareLimit 5 = .ok (.invokestatic 125, 3) := by decide +kernel
theorem dX5_setSquareLimit_8 : decode cX5_setSquareLimit 8 = .ok (.ifCond .ne 5, 3) := by decide +kernel
theorem dX5_setSquareLimit_11 : decode cX5_setSquareLimit 11 = .ok (.iconst (-1), 1) := by decide +kernel
theorem dX5_setSquareLimit_12 : decode cX5_setSquareLimit 12 = .ok (.ireturn, 1) := by decide +kernel
theorem dX5_setSquareLimit_13 : decode cX5_setSquareLimit 13 = .ok (.aload_n 0, 1) := by decide +kernel
theorem dX5_setSquareLimit_14 : decode cX5_setSquareLimit 14 = .ok (.getfield 48, 3) := by decide +kernel
theorem dX5_setSquareLimit_17 : decode cX5_setSquareLimit 17 = .ok (.istore_n 2, 1) := by decide +kernel
theorem dX5_setSquareLimit_18 : decode cX5_setSquareLimit 18 = .ok (.aload_n 0, 1) := by decide +kernel
theorem dX5_setSquareLimit_19 : decode cX5_setSquareLimit 19 = .ok (.iload_n 1, 1) := by decide +kernel
theorem dX5_setSquareLimit_20 : decode cX5_setSquareLimit 20 = .ok (.putfield 48, 3) := by decide +kernel
theorem dX5_setSquareLimit_23 : decode cX5_setSquareLimit 23 = .ok (.iload_n 2, 1) := by decide +kernel
theorem dX5_setSquareLimit_24 : decode cX5_setSquareLimit 24 = .ok (.ireturn, 1) := by decide +kernel
theorem dX5_setAcceleration_0 : decode cX5_setAcceleration 0 = .ok (.iload_n 1, 1) := by decide +kernel
theorem dX5_setAcceleration_1 : decode cX5_setAcceleration 1 = .ok (.iconst 1, 1) := by decide +kernel
theorem dX5_setAcceleration_2 : decode cX5_setAcceleration 2 = .ok (.bipush 99, 2) := by decide +kernel
theorem dX5_setAcceleration_4 : decode cX5_setAcceleration 4 = .ok (.invokestatic 125, 3) := by decide +kernel
theorem dX5_setAcceleration_7 : decode cX5_setAcceleration 7 = .ok (.ifCond .ne 5, 3) := by decide +kernel
theorem dX5_setAcceleration_10 : decode cX5_setAcceleration 10 = .ok (.iconst (-1), 1) := by decide +kernel
theorem dX5_setAcceleration_11 : decode cX5_setAcceleration 11 = .ok (.ireturn, 1) := by decide +kernel
theorem dX5_setAcceleration_12 : decode cX5_setAcceleration 12 = .ok (.aload_n 0, 1) := by decide +kernel
theorem dX5_setAcceleration_13 : decode cX5_setAcceleration 13 = .ok (.getfield 51, 3) := by decide +kernel
theorem dX5_setAcceleration_16 : decode cX5_setAcceleration 16 = .ok (.istore_n 2, 1) := by decide +kernel
theorem dX5_setAcceleration_17 : decode cX5_setAcceleration 17 = .ok (.aload_n 0, 1) := by decide +kernel
theorem dX5_setAcceleration_18 : decode cX5_setAcceleration 18 = .ok (.iload_n 1, 1) := by decide +kernel
theorem dX5_setAcceleration_19 : decode cX5_setAcceleration 19 = .ok (.putfield 51, 3) := by decide +kernel
theorem dX5_setAcceleration_22 : decode cX5_setAcceleration 22 = .ok (.iload_n 2, 1) := by decide +kernel
theorem dX5_setAcceleration_23 : decode cX5_setAcceleration 23 = .ok (.ireturn, 1) := by decide +kernel
theorem dX5_cornerLimit_0 : decode cX5_cornerLimit 0 = .ok (.aload_n 0, 1) := by decide +kernel
theorem dX5_cornerLimit_1 : decode cX5_cornerLimit 1 = .ok (.getfield 12, 3) := by decide +kernel
theorem dX5_cornerLimit_4 : decode cX5_cornerLimit 4 = .ok (.iload_n 1, 1) := by decide +kernel
theorem dX5_cornerLimit_5 : decode cX5_cornerLimit 5 = .ok (.invokevirtual 100, 3) := by decide +kernel
theorem dX5_cornerLimit_8 : decode cX5_cornerLimit 8 = .ok (.ifCond .ne 5, 3) := by decide +kernel
theorem dX5_cornerLimit_11 : decode cX5_cornerLimit 11 = .ok (.iconst (-1), 1) := by decide +kernel
theorem dX5_cornerLimit_12 : decode cX5_cornerLimit 12 = .ok (.ireturn, 1) := by decide +kernel
theorem dX5_cornerLimit_13 : decode cX5_cornerLimit 13 = .ok (.aload_n 0, 1) := by decide +kernel
theorem dX5_cornerLimit_14 : decode cX5_cornerLimit 14 = .ok (.getfield 12, 3) := by decide +kernel
theorem dX5_cornerLimit_17 : decode cX5_cornerLimit 17 = .ok (.iload_n 1, 1) := by decide +kernel
theorem dX5_cornerLimit_18 : decode cX5_cornerLimit 18 = .ok (.invokevirtual 146, 3) := by decide +kernel
theorem dX5_cornerLimit_21 : decode cX5_cornerLimit 21 = .ok (.ifCond .eq 18, 3) := by decide +kernel
theorem dX5_cornerLimit_24 : decode cX5_cornerLimit 24 = .ok (.aload_n 0, 1) := by decide +kernel
theorem dX5_cornerLimit_25 : decode cX5_cornerLimit 25 = .ok (.getfield 12, 3) := by decide +kernel
theorem dX5_cornerLimit_28 : decode cX5_cornerLimit 28 = .ok (.iload_n 1, 1) := by decide +kernel
theorem dX5_cornerLimit_29 : decode cX5_cornerLimit 29 = .ok (.aload_n 0, 1) := by decide +kernel
theorem dX5_cornerLimit_30 : decode cX5_cornerLimit 30 = .ok (.getfield 48, 3) := by decide +kernel
theorem dX5_cornerLimit_33 : decode cX5_cornerLimit 33 = .ok (.invokevirtual 149, 3) := by decide +kernel
theorem dX5_cornerLimit_36 : decode cX5_cornerLimit 36 = .ok (.goto 5, 3) := by decide +kernel
theorem dX5_cornerLimit_39 : decode cX5_cornerLimit 39 = .ok (.bipush (-3), 2) := by decide +kernel
theorem dX5_cornerLimit_41 : decode cX5_cornerLimit 41 = .ok (.ireturn, 1) := by decide +kernel
theorem dX5_endSquare_0 : decode cX5_endSquare 0 = .ok (.aload_n 0, 1) := by decide +kernel
theorem dX5_endSquare_1 : decode cX5_endSquare 1 = .ok (.getfield 12, 3) := by decide +kernel
theorem dX5_endSquare_4 : decode cX5_endSquare 4 = .ok (.iload_n 1, 1) := by decide +kernel
theorem dX5_endSquare_5 : decode cX5_endSquare 5 = .ok (.invokevirtual 100, 3) := by decide +kernel
theorem dX5_endSquare_8 : decode cX5_endSquare 8 = .ok (.ifCond .ne 5, 3) := by decide +kernel
theorem dX5_endSquare_11 : decode cX5_endSquare 11 = .ok (.iconst (-1), 1) := by decide +kernel
theorem dX5_endSquare_12 : decode cX5_endSquare 12 = .ok (.ireturn, 1) := by decide +kernel
theorem dX5_endSquare_13 : decode cX5_endSquare 13 = .ok (.aload_n 0, 1) := by decide +kernel
theorem dX5_endSquare_14 : decode cX5_endSquare 14 = .ok (.getfield 40, 3) := by decide +kernel
theorem dX5_endSquare_17 : decode cX5_endSquare 17 = .ok (.aload_n 0, 1) := by decide +kernel
theorem dX5_endSquare_18 : decode cX5_endSquare 18 = .ok (.getfield 12, 3) := by decide +kernel
theorem dX5_endSquare_21 : decode cX5_endSquare 21 = .ok (.aload_n 0, 1) := by decide +kernel
theorem dX5_endSquare_22 : decode cX5_endSquare 22 = .ok (.getfield 48, 3) := by decide +kernel
theorem dX5_endSquare_25 : decode cX5_endSquare 25 = .ok (.aload_n 0, 1) := by decide +kernel
theorem dX5_endSquare_26 : decode cX5_endSquare 26 = .ok (.getfield 51, 3) := by decide +kernel
theorem dX5_endSquare_29 : decode cX5_endSquare 29 = .ok (.invokevirtual 153, 3) := by decide +kernel
theorem dX5_endSquare_32 : decode cX5_endSquare 32 = .ok (.aload_n 0, 1) := by decide +kernel
theorem dX5_endSquare_33 : decode cX5_endSquare 33 = .ok (.getfield 40, 3) := by decide +kernel
theorem dX5_endSquare_36 : decode cX5_endSquare 36 = .ok (.iload_n 1, 1) := by decide +kernel
theorem dX5_endSquare_37 : decode cX5_endSquare 37 = .ok (.invokevirtual 157, 3) := by decide +kernel
theorem dX5_endSquare_40 : decode cX5_endSquare 40 = .ok (.ireturn, 1) := by decide +kernel
theorem dX5_peakSquare_0 : decode cX5_peakSquare 0 = .ok (.aload_n 0, 1) := by decide +kernel
theorem dX5_peakSquare_1 : decode cX5_peakSquare 1 = .ok (.getfield 12, 3) := by decide +kernel
theorem dX5_peakSquare_4 : decode cX5_peakSquare 4 = .ok (.iload_n 1, 1) := by decide +kernel
theorem dX5_peakSquare_5 : decode cX5_peakSquare 5 = .ok (.invokevirtual 100, 3) := by decide +kernel
theorem dX5_peakSquare_8 : decode cX5_peakSquare 8 = .ok (.ifCond .ne 5, 3) := by decide +kernel
theorem dX5_peakSquare_11 : decode cX5_peakSquare 11 = .ok (.iconst (-1), 1) := by decide +kernel
theorem dX5_peakSquare_12 : decode cX5_peakSquare 12 = .ok (.ireturn, 1) := by decide +kernel
theorem dX5_peakSquare_13 : decode cX5_peakSquare 13 = .ok (.aload_n 0, 1) := by decide +kernel
theorem dX5_peakSquare_14 : decode cX5_peakSquare 14 = .ok (.getfield 40, 3) := by decide +kernel
theorem dX5_peakSquare_17 : decode cX5_peakSquare 17 = .ok (.aload_n 0, 1) := by decide +kernel
theorem dX5_peakSquare_18 : decode cX5_peakSquare 18 = .ok (.getfield 12, 3) := by decide +kernel
theorem dX5_peakSquare_21 : decode cX5_peakSquare 21 = .ok (.aload_n 0, 1) := by decide +kernel
theorem dX5_peakSquare_22 : decode cX5_peakSquare 22 = .ok (.getfield 48, 3) := by decide +kernel
theorem dX5_peakSquare_25 : decode cX5_peakSquare 25 = .ok (.aload_n 0, 1) := by decide +kernel
theorem dX5_peakSquare_26 : decode cX5_peakSquare 26 = .ok (.getfield 51, 3) := by decide +kernel
theorem dX5_peakSquare_29 : decode cX5_peakSquare 29 = .ok (.invokevirtual 153, 3) := by decide +kernel
theorem dX5_peakSquare_32 : decode cX5_peakSquare 32 = .ok (.aload_n 0, 1) := by decide +kernel
theorem dX5_peakSquare_33 : decode cX5_peakSquare 33 = .ok (.getfield 40, 3) := by decide +kernel
theorem dX5_peakSquare_36 : decode cX5_peakSquare 36 = .ok (.iload_n 1, 1) := by decide +kernel
theorem dX5_peakSquare_37 : decode cX5_peakSquare 37 = .ok (.invokevirtual 160, 3) := by decide +kernel
theorem dX5_peakSquare_40 : decode cX5_peakSquare 40 = .ok (.aload_n 0, 1) := by decide +kernel
theorem dX5_peakSquare_41 : decode cX5_peakSquare 41 = .ok (.getfield 40, 3) := by decide +kernel
theorem dX5_peakSquare_44 : decode cX5_peakSquare 44 = .ok (.iload_n 1, 1) := by decide +kernel
theorem dX5_peakSquare_45 : decode cX5_peakSquare 45 = .ok (.invokevirtual 157, 3) := by decide +kernel
theorem dX5_peakSquare_48 : decode cX5_peakSquare 48 = .ok (.iadd, 1) := by decide +kernel
theorem dX5_peakSquare_49 : decode cX5_peakSquare 49 = .ok (.iconst 2, 1) := by decide +kernel
theorem dX5_peakSquare_50 : decode cX5_peakSquare 50 = .ok (.aload_n 0, 1) := by decide +kernel
theorem dX5_peakSquare_51 : decode cX5_peakSquare 51 = .ok (.getfield 51, 3) := by decide +kernel
theorem dX5_peakSquare_54 : decode cX5_peakSquare 54 = .ok (.imul, 1) := by decide +kernel
theorem dX5_peakSquare_55 : decode cX5_peakSquare 55 = .ok (.aload_n 0, 1) := by decide +kernel
theorem dX5_peakSquare_56 : decode cX5_peakSquare 56 = .ok (.getfield 12, 3) := by decide +kernel
theorem dX5_peakSquare_59 : decode cX5_peakSquare 59 = .ok (.iload_n 1, 1) := by decide +kernel
theorem dX5_peakSquare_60 : decode cX5_peakSquare 60 = .ok (.invokevirtual 163, 3) := by decide +kernel
theorem dX5_peakSquare_63 : decode cX5_peakSquare 63 = .ok (.imul, 1) := by decide +kernel
theorem dX5_peakSquare_64 : decode cX5_peakSquare 64 = .ok (.iadd, 1) := by decide +kernel
theorem dX5_peakSquare_65 : decode cX5_peakSquare 65 = .ok (.istore_n 2, 1) := by decide +kernel
theorem dX5_peakSquare_66 : decode cX5_peakSquare 66 = .ok (.aload_n 0, 1) := by decide +kernel
theorem dX5_peakSquare_67 : decode cX5_peakSquare 67 = .ok (.getfield 48, 3) := by decide +kernel
theorem dX5_peakSquare_70 : decode cX5_peakSquare 70 = .ok (.iload_n 2, 1) := by decide +kernel
theorem dX5_peakSquare_71 : decode cX5_peakSquare 71 = .ok (.iconst 2, 1) := by decide +kernel
theorem dX5_peakSquare_72 : decode cX5_peakSquare 72 = .ok (.idiv, 1) := by decide +kernel
theorem dX5_peakSquare_73 : decode cX5_peakSquare 73 = .ok (.invokestatic 166, 3) := by decide +kernel
theorem dX5_peakSquare_76 : decode cX5_peakSquare 76 = .ok (.ireturn, 1) := by decide +kernel
theorem dX5_undo_0 : decode cX5_undo 0 = .ok (.aload_n 0, 1) := by decide +kernel
theorem dX5_undo_1 : decode cX5_undo 1 = .ok (.getfield 19, 3) := by decide +kernel
theorem dX5_undo_4 : decode cX5_undo 4 = .ok (.invokevirtual 171, 3) := by decide +kernel
theorem dX5_undo_7 : decode cX5_undo 7 = .ok (.ifCond .eq 6, 3) := by decide +kernel
theorem dX5_undo_10 : decode cX5_undo 10 = .ok (.bipush (-3), 2) := by decide +kernel
theorem dX5_undo_12 : decode cX5_undo 12 = .ok (.ireturn, 1) := by decide +kernel
theorem dX5_undo_13 : decode cX5_undo 13 = .ok (.aload_n 0, 1) := by decide +kernel
theorem dX5_undo_14 : decode cX5_undo 14 = .ok (.getfield 19, 3) := by decide +kernel
theorem dX5_undo_17 : decode cX5_undo 17 = .ok (.aload_n 0, 1) := by decide +kernel
theorem dX5_undo_18 : decode cX5_undo 18 = .ok (.getfield 12, 3) := by decide +kernel
theorem dX5_undo_21 : decode cX5_undo 21 = .ok (.invokevirtual 175, 3) := by decide +kernel
theorem dX5_undo_24 : decode cX5_undo 24 = .ok (.aload_n 0, 1) := by decide +kernel
theorem dX5_undo_25 : decode cX5_undo 25 = .ok (.getfield 26, 3) := by decide +kernel
theorem dX5_undo_28 : decode cX5_undo 28 = .ok (.invokevirtual 129, 3) := by decide +kernel
theorem dX5_undo_31 : decode cX5_undo 31 = .ok (.aload_n 0, 1) := by decide +kernel
theorem dX5_undo_32 : decode cX5_undo 32 = .ok (.getfield 19, 3) := by decide +kernel
theorem dX5_undo_35 : decode cX5_undo 35 = .ok (.invokevirtual 179, 3) := by decide +kernel
theorem dX5_undo_38 : decode cX5_undo 38 = .ok (.ireturn, 1) := by decide +kernel
theorem dX5_beginEdit_0 : decode cX5_beginEdit 0 = .ok (.aload_n 0, 1) := by decide +kernel
theorem dX5_beginEdit_1 : decode cX5_beginEdit 1 = .ok (.getfield 19, 3) := by decide +kernel
theorem dX5_beginEdit_4 : decode cX5_beginEdit 4 = .ok (.aload_n 0, 1) := by decide +kernel
theorem dX5_beginEdit_5 : decode cX5_beginEdit 5 = .ok (.getfield 12, 3) := by decide +kernel
theorem dX5_beginEdit_8 : decode cX5_beginEdit 8 = .ok (.invokevirtual 182, 3) := by decide +kernel
theorem dX5_beginEdit_11 : decode cX5_beginEdit 11 = .ok (.aload_n 0, 1) := by decide +kernel
theorem dX5_beginEdit_12 : decode cX5_beginEdit 12 = .ok (.getfield 26, 3) := by decide +kernel
theorem dX5_beginEdit_15 : decode cX5_beginEdit 15 = .ok (.invokevirtual 129, 3) := by decide +kernel
theorem dX5_beginEdit_18 : decode cX5_beginEdit 18 = .ok (.return_, 1) := by decide +kernel
theorem dX5_codeOrError_0 : decode cX5_codeOrError 0 = .ok (.iload_n 1, 1) := by decide +kernel
theorem dX5_codeOrError_1 : decode cX5_codeOrError 1 = .ok (.ifCond .ge 5, 3) := by decide +kernel
theorem dX5_codeOrError_4 : decode cX5_codeOrError 4 = .ok (.iconst (-1), 1) := by decide +kernel
theorem dX5_codeOrError_5 : decode cX5_codeOrError 5 = .ok (.ireturn, 1) := by decide +kernel
theorem dX5_codeOrError_6 : decode cX5_codeOrError 6 = .ok (.aload_n 0, 1) := by decide +kernel
theorem dX5_codeOrError_7 : decode cX5_codeOrError 7 = .ok (.getfield 12, 3) := by decide +kernel
theorem dX5_codeOrError_10 : decode cX5_codeOrError 10 = .ok (.iload_n 1, 1) := by decide +kernel
theorem dX5_codeOrError_11 : decode cX5_codeOrError 11 = .ok (.invokevirtual 100, 3) := by decide +kernel
theorem dX5_codeOrError_14 : decode cX5_codeOrError 14 = .ok (.ifCond .eq 14, 3) := by decide +kernel
theorem dX5_codeOrError_17 : decode cX5_codeOrError 17 = .ok (.aload_n 0, 1) := by decide +kernel
theorem dX5_codeOrError_18 : decode cX5_codeOrError 18 = .ok (.getfield 12, 3) := by decide +kernel
theorem dX5_codeOrError_21 : decode cX5_codeOrError 21 = .ok (.iload_n 1, 1) := by decide +kernel
theorem dX5_codeOrError_22 : decode cX5_codeOrError 22 = .ok (.invokevirtual 107, 3) := by decide +kernel
theorem dX5_codeOrError_25 : decode cX5_codeOrError 25 = .ok (.goto 5, 3) := by decide +kernel
theorem dX5_codeOrError_28 : decode cX5_codeOrError 28 = .ok (.bipush (-3), 2) := by decide +kernel
theorem dX5_codeOrError_30 : decode cX5_codeOrError 30 = .ok (.ireturn, 1) := by decide +kernel
theorem dX5_isPoint_0 : decode cX5_isPoint 0 = .ok (.iload_n 0, 1) := by decide +kernel
theorem dX5_isPoint_1 : decode cX5_isPoint 1 = .ok (.iconst 0, 1) := by decide +kernel
theorem dX5_isPoint_2 : decode cX5_isPoint 2 = .ok (.bipush 99, 2) := by decide +kernel
theorem dX5_isPoint_4 : decode cX5_isPoint 4 = .ok (.invokestatic 125, 3) := by decide +kernel
theorem dX5_isPoint_7 : decode cX5_isPoint 7 = .ok (.ifCond .eq 17, 3) := by decide +kernel
theorem dX5_isPoint_10 : decode cX5_isPoint 10 = .ok (.iload_n 1, 1) := by decide +kernel
theorem dX5_isPoint_11 : decode cX5_isPoint 11 = .ok (.iconst 0, 1) := by decide +kernel
theorem dX5_isPoint_12 : decode cX5_isPoint 12 = .ok (.bipush 99, 2) := by decide +kernel
theorem dX5_isPoint_14 : decode cX5_isPoint 14 = .ok (.invokestatic 125, 3) := by decide +kernel
theorem dX5_isPoint_17 : decode cX5_isPoint 17 = .ok (.ifCond .eq 7, 3) := by decide +kernel
theorem dX5_isPoint_20 : decode cX5_isPoint 20 = .ok (.iconst 1, 1) := by decide +kernel
theorem dX5_isPoint_21 : decode cX5_isPoint 21 = .ok (.goto 4, 3) := by decide +kernel
theorem dX5_isPoint_24 : decode cX5_isPoint 24 = .ok (.iconst 0, 1) := by decide +kernel
theorem dX5_isPoint_25 : decode cX5_isPoint 25 = .ok (.ireturn, 1) := by decide +kernel
theorem dX5_isPen_0 : decode cX5_isPen 0 = .ok (.iload_n 0, 1) := by decide +kernel
theorem dX5_isPen_1 : decode cX5_isPen 1 = .ok (.iconst 0, 1) := by decide +kernel
theorem dX5_isPen_2 : decode cX5_isPen 2 = .ok (.iconst 3, 1) := by decide +kernel
theorem dX5_isPen_3 : decode cX5_isPen 3 = .ok (.invokestatic 125, 3) := by decide +kernel
theorem dX5_isPen_6 : decode cX5_isPen 6 = .ok (.ireturn, 1) := by decide +kernel
theorem dX5_isWithin_0 : decode cX5_isWithin 0 = .ok (.iload_n 0, 1) := by decide +kernel
theorem dX5_isWithin_1 : decode cX5_isWithin 1 = .ok (.iload_n 1, 1) := by decide +kernel
theorem dX5_isWithin_2 : decode cX5_isWithin 2 = .ok (.if_icmp .lt 12, 3) := by decide +kernel
theorem dX5_isWithin_5 : decode cX5_isWithin 5 = .ok (.iload_n 0, 1) := by decide +kernel
theorem dX5_isWithin_6 : decode cX5_isWithin 6 = .ok (.iload_n 2, 1) := by decide +kernel
theorem dX5_isWithin_7 : decode cX5_isWithin 7 = .ok (.if_icmp .gt 7, 3) := by decide +kernel
theorem dX5_isWithin_10 : decode cX5_isWithin 10 = .ok (.iconst 1, 1) := by decide +kernel
theorem dX5_isWithin_11 : decode cX5_isWithin 11 = .ok (.goto 4, 3) := by decide +kernel
theorem dX5_isWithin_14 : decode cX5_isWithin 14 = .ok (.iconst 0, 1) := by decide +kernel
theorem dX5_isWithin_15 : decode cX5_isWithin 15 = .ok (.ireturn, 1) := by decide +kernel
end
section
theorem dX6_init_0 : decode cX6_init 0 = .ok (.aload_n 0, 1) := by decide +kernel
theorem dX6_init_1 : decode cX6_init 1 = .ok (.invokespecial 1, 3) := by decide +kernel
theorem dX6_init_4 : decode cX6_init 4 = .ok (.aload_n 0, 1) := by decide +kernel
theorem dX6_init_5 : decode cX6_init 5 = .ok (.bipush 49, 2) := by decide +kernel
theorem dX6_init_7 : decode cX6_init 7 = .ok (.newarray .int, 2) := by decide +kernel
theorem dX6_init_9 : decode cX6_init 9 = .ok (.putfield 7, 3) := by decide +kernel
theorem dX6_init_12 : decode cX6_init 12 = .ok (.aload_n 0, 1) := by decide +kernel
theorem dX6_init_13 : decode cX6_init 13 = .ok (.sipush 196, 3) := by decide +kernel
theorem dX6_init_16 : decode cX6_init 16 = .ok (.newarray .int, 2) := by decide +kernel
theorem dX6_init_18 : decode cX6_init 18 = .ok (.putfield 13, 3) := by decide +kernel
theorem dX6_init_21 : decode cX6_init 21 = .ok (.aload_n 0, 1) := by decide +kernel
theorem dX6_init_22 : decode cX6_init 22 = .ok (.bipush 50, 2) := by decide +kernel
theorem dX6_init_24 : decode cX6_init 24 = .ok (.putfield 16, 3) := by decide +kernel
theorem dX6_init_27 : decode cX6_init 27 = .ok (.aload_n 0, 1) := by decide +kernel
theorem dX6_init_28 : decode cX6_init 28 = .ok (.sipush 400, 3) := by decide +kernel
theorem dX6_init_31 : decode cX6_init 31 = .ok (.putfield 20, 3) := by decide +kernel
theorem dX6_init_34 : decode cX6_init 34 = .ok (.aload_n 0, 1) := by decide +kernel
theorem dX6_init_35 : decode cX6_init 35 = .ok (.bipush 10, 2) := by decide +kernel
theorem dX6_init_37 : decode cX6_init 37 = .ok (.putfield 23, 3) := by decide +kernel
theorem dX6_init_40 : decode cX6_init 40 = .ok (.aload_n 0, 1) := by decide +kernel
theorem dX6_init_41 : decode cX6_init 41 = .ok (.sipush 4096, 3) := by decide +kernel
theorem dX6_init_44 : decode cX6_init 44 = .ok (.newarray .int, 2) := by decide +kernel
theorem dX6_init_46 : decode cX6_init 46 = .ok (.putfield 26, 3) := by decide +kernel
theorem dX6_init_49 : decode cX6_init 49 = .ok (.aload_n 0, 1) := by decide +kernel
theorem dX6_init_50 : decode cX6_init 50 = .ok (.bipush 8, 2) := by decide +kernel
theorem dX6_init_52 : decode cX6_init 52 = .ok (.newarray .int, 2) := by decide +kernel
theorem dX6_init_54 : decode cX6_init 54 = .ok (.putfield 29, 3) := by decide +kernel
theorem dX6_init_57 : decode cX6_init 57 = .ok (.aload_n 0, 1) := by decide +kernel
theorem dX6_init_58 : decode cX6_init 58 = .ok (.bipush 16, 2) := by decide +kernel
theorem dX6_init_60 : decode cX6_init 60 = .ok (.newarray .int, 2) := by decide +kernel
theorem dX6_init_62 : decode cX6_init 62 = .ok (.putfield 32, 3) := by decide +kernel
theorem dX6_init_65 : decode cX6_init 65 = .ok (.aload_n 0, 1) := by decide +kernel
theorem dX6_init_66 : decode cX6_init 66 = .ok (.bipush 8, 2) := by decide +kernel
theorem dX6_init_68 : decode cX6_init 68 = .ok (.newarray .int, 2) := by decide +kernel
theorem dX6_init_70 : decode cX6_init 70 = .ok (.putfield 35, 3) := by decide +kernel
theorem dX6_init_73 : decode cX6_init 73 = .ok (.return_, 1) := by decide +kernel
theorem dX6_in_0 : decode cX6_in 0 = .ok (.iload_n 0, 1) := by decide +kernel
theorem dX6_in_1 : decode cX6_in 1 = .ok (.iload_n 1, 1) := by decide +kernel
theorem dX6_in_2 : decode cX6_in 2 = .ok (.if_icmp .lt 12, 3) := by decide +kernel
theorem dX6_in_5 : decode cX6_in 5 = .ok (.iload_n 0, 1) := by decide +kernel
theorem dX6_in_6 : decode cX6_in 6 = .ok (.iload_n 2, 1) := by decide +kernel
theorem dX6_in_7 : decode cX6_in 7 = .ok (.if_icmp .gt 7, 3) := by decide +kernel
theorem dX6_in_10 : decode cX6_in 10 = .ok (.iconst 1, 1) := by decide +kernel
theorem dX6_in_11 : decode cX6_in 11 = .ok (.goto 4, 3) := by decide +kernel
theorem dX6_in_14 : decode cX6_in 14 = .ok (.iconst 0, 1) := by decide +kernel
theorem dX6_in_15 : decode cX6_in 15 = .ok (.ireturn, 1) := by decide +kernel
theorem dX6_isStroke_0 : decode cX6_isStroke 0 = .ok (.iload_n 1, 1) := by decide +kernel
theorem dX6_isStroke_1 : decode cX6_isStroke 1 = .ok (.iconst 0, 1) := by decide +kernel
theorem dX6_isStroke_2 : decode cX6_isStroke 2 = .ok (.aload_n 0, 1) := by decide +kernel
theorem dX6_isStroke_3 : decode cX6_isStroke 3 = .ok (.getfield 7, 3) := by decide +kernel
theorem dX6_isStroke_6 : decode cX6_isStroke 6 = .ok (.bipush 48, 2) := by decide +kernel
theorem dX6_isStroke_8 : decode cX6_isStroke 8 = .ok (.iaload, 1) := by decide +kernel
theorem dX6_isStroke_9 : decode cX6_isStroke 9 = .ok (.iconst 1, 1) := by decide +kernel
theorem dX6_isStroke_10 : decode cX6_isStroke 10 = .ok (.isub, 1) := by decide +kernel
theorem dX6_isStroke_11 : decode cX6_isStroke 11 = .ok (.invokestatic 38, 3) := by decide +kernel
theorem dX6_isStroke_14 : decode cX6_isStroke 14 = .ok (.ireturn, 1) := by decide +kernel
theorem dX6_edit_0 : decode cX6_edit 0 = .ok (.aload_n 0, 1) := by decide +kernel
theorem dX6_edit_1 : decode cX6_edit 1 = .ok (.getfield 42, 3) := by decide +kernel
theorem dX6_edit_4 : decode cX6_edit 4 = .ok (.iconst 4, 1) := by decide +kernel
theorem dX6_edit_5 : decode cX6_edit 5 = .ok (.if_icmp .ne 43, 3) := by decide +kernel
theorem dX6_edit_8 : decode cX6_edit 8 = .ok (.iconst 0, 1) := by decide +kernel
theorem dX6_edit_9 : decode cX6_edit 9 = .ok (.istore_n 1, 1) := by decide +kernel
theorem dX6_edit_10 : decode cX6_edit 10 = .ok (.iload_n 1, 1) := by decide +kernel
theorem dX6_edit_11 : decode cX6_edit 11 = .ok (.sipush 147, 3) := by decide +kernel
theorem dX6_edit_14 : decode cX6_edit 14 = .ok (.if_icmp .ge 24, 3) := by decide +kernel
theorem dX6_edit_17 : decode cX6_edit 17 = .ok (.aload_n 0, 1) := by decide +kernel
theorem dX6_edit_18 : decode cX6_edit 18 = .ok (.getfield 13, 3) := by decide +kernel
theorem dX6_edit_21 : decode cX6_edit 21 = .ok (.iload_n 1, 1) := by decide +kernel
theorem dX6_edit_22 : decode cX6_edit 22 = .ok (.aload_n 0, 1) := by decide +kernel
theorem dX6_edit_23 : decode cX6_edit 23 = .ok (.getfield 13, 3) := by decide +kernel
theorem dX6_edit_26 : decode cX6_edit 26 = .ok (.iload_n 1, 1) := by decide +kernel
theorem dX6_edit_27 : decode cX6_edit 27 = .ok (.bipush 49, 2) := by decide +kernel
theorem dX6_edit_29 : decode cX6_edit 29 = .ok (.iadd, 1) := by decide +kernel
theorem dX6_edit_30 : decode cX6_edit 30 = .ok (.iaload, 1) := by decide +kernel
theorem dX6_edit_31 : decode cX6_edit 31 = .ok (.iastore, 1) := by decide +kernel
theorem dX6_edit_32 : decode cX6_edit 32 = .ok (.iinc 1 1, 3) := by decide +kernel
theorem dX6_edit_35 : decode cX6_edit 35 = .ok (.goto (-25), 3) := by decide +kernel
theorem dX6_edit_38 : decode cX6_edit 38 = .ok (.aload_n 0, 1) := by decide +kernel
theorem dX6_edit_39 : decode cX6_edit 39 = .ok (.dup, 1) := by decide +kernel
theorem dX6_edit_40 : decode cX6_edit 40 = .ok (.getfield 42, 3) := by decide +kernel
theorem dX6_edit_43 : decode cX6_edit 43 = .ok (.iconst 1, 1) := by decide +kernel
theorem dX6_edit_44 : decode cX6_edit 44 = .ok (.isub, 1) := by decide +kernel
theorem dX6_edit_45 : decode cX6_edit 45 = .ok (.putfield 42, 3) := by decide +kernel
theorem dX6_edit_48 : decode cX6_edit 48 = .ok (.iconst 0, 1) := by decide +kernel
theorem dX6_edit_49 : decode cX6_edit 49 = .ok (.istore_n 1, 1) := by decide +kernel
theorem dX6_edit_50 : decode cX6_edit 50 = .ok (.iload_n 1, 1) := by decide +kernel
theorem dX6_edit_51 : decode cX6_edit 51 = .ok (.bipush 49, 2) := by decide +kernel
theorem dX6_edit_53 : decode cX6_edit 53 = .ok (.if_icmp .ge 29, 3) := by decide +kernel
theorem dX6_edit_56 : decode cX6_edit 56 = .ok (.aload_n 0, 1) := by decide +kernel
theorem dX6_edit_57 : decode cX6_edit 57 = .ok (.getfield 13, 3) := by decide +kernel
theorem dX6_edit_60 : decode cX6_edit 60 = .ok (.bipush 49, 2) := by decide +kernel
theorem dX6_edit_62 : decode cX6_edit 62 = .ok (.aload_n 0, 1) := by decide +kernel
theorem dX6_edit_63 : decode cX6_edit 63 = .ok (.getfield 42, 3) := by decide +kernel
theorem dX6_edit_66 : decode cX6_edit 66 = .ok (.imul, 1) := by decide +kernel
theorem dX6_edit_67 : decode cX6_edit 67 = .ok (.iload_n 1, 1) := by decide +kernel
theorem dX6_edit_68 : decode cX6_edit 68 = .ok (.iadd, 1) := by decide +kernel
theorem dX6_edit_69 : decode cX6_edit 69 = .ok (.aload_n 0, 1) := by decide +kernel
theorem dX6_edit_70 : decode cX6_edit 70 = .ok (.getfield 7, 3) := by decide +kernel
theorem dX6_edit_73 : decode cX6_edit 73 = .ok (.iload_n 1, 1) := by decide +kernel
theorem dX6_edit_74 : decode cX6_edit 74 = .ok (.iaload, 1) := by decide +kernel
theorem dX6_edit_75 : decode cX6_edit 75 = .ok (.iastore, 1) := by decide +kernel
theorem dX6_edit_76 : decode cX6_edit 76 = .ok (.iinc 1 1, 3) := by decide +kernel
theorem dX6_edit_79 : decode cX6_edit 79 = .ok (.goto (-29), 3) := by decide +kernel
theorem dX6_edit_82 : decode cX6_edit 82 = .ok (.aload_n 0, 1) := by decide +kernel
theorem dX6_edit_83 : decode cX6_edit 83 = .ok (.dup, 1) := by decide +kernel
theorem dX6_edit_84 : decode cX6_edit 84 = .ok (.getfield 42, 3) := by decide +kernel
theorem dX6_edit_87 : decode cX6_edit 87 = .ok (.iconst 1, 1) := by decide +kernel
theorem dX6_edit_88 : decode cX6_edit 88 = .ok (.iadd, 1) := by decide +kernel
theorem dX6_edit_89 : decode cX6_edit 89 = .ok (.putfield 42, 3) := by decide +kernel
theorem dX6_edit_92 : decode cX6_edit 92 = .ok (.return_, 1) := by decide +kernel
theorem dX6_undo_0 : decode cX6_undo 0 = .ok (.aload_n 0, 1) := by decide +kernel
theorem dX6_undo_1 : decode cX6_undo 1 = .ok (.getfield 42, 3) := by decide +kernel
theorem dX6_undo_4 : decode cX6_undo 4 = .ok (.ifCond .ne 6, 3) := by decide +kernel
theorem dX6_undo_7 : decode cX6_undo 7 = .ok (.bipush (-3), 2) := by decide +kernel
theorem dX6_undo_9 : decode cX6_undo 9 = .ok (.ireturn, 1) := by decide +kernel
theorem dX6_undo_10 : decode cX6_undo 10 = .ok (.aload_n 0, 1) := by decide +kernel
theorem dX6_undo_11 : decode cX6_undo 11 = .ok (.dup, 1) := by decide +kernel
theorem dX6_undo_12 : decode cX6_undo 12 = .ok (.getfield 42, 3) := by decide +kernel
theorem dX6_undo_15 : decode cX6_undo 15 = .ok (.iconst 1, 1) := by decide +kernel
theorem dX6_undo_16 : decode cX6_undo 16 = .ok (.isub, 1) := by decide +kernel
theorem dX6_undo_17 : decode cX6_undo 17 = .ok (.putfield 42, 3) := by decide +kernel
theorem dX6_undo_20 : decode cX6_undo 20 = .ok (.iconst 0, 1) := by decide +kernel
theorem dX6_undo_21 : decode cX6_undo 21 = .ok (.istore_n 1, 1) := by decide +kernel
theorem dX6_undo_22 : decode cX6_undo 22 = .ok (.iload_n 1, 1) := by decide +kernel
theorem dX6_undo_23 : decode cX6_undo 23 = .ok (.bipush 49, 2) := by decide +kernel
theorem dX6_undo_25 : decode cX6_undo 25 = .ok (.if_icmp .ge 29, 3) := by decide +kernel
theorem dX6_undo_28 : decode cX6_undo 28 = .ok (.aload_n 0, 1) := by decide +kernel
theorem dX6_undo_29 : decode cX6_undo 29 = .ok (.getfield 7, 3) := by decide +kernel
theorem dX6_undo_32 : decode cX6_undo 32 = .ok (.iload_n 1, 1) := by decide +kernel
theorem dX6_undo_33 : decode cX6_undo 33 = .ok (.aload_n 0, 1) := by decide +kernel
theorem dX6_undo_34 : decode cX6_undo 34 = .ok (.getfield 13, 3) := by decide +kernel
theorem dX6_undo_37 : decode cX6_undo 37 = .ok (.bipush 49, 2) := by decide +kernel
theorem dX6_undo_39 : decode cX6_undo 39 = .ok (.aload_n 0, 1) := by decide +kernel
theorem dX6_undo_40 : decode cX6_undo 40 = .ok (.getfield 42, 3) := by decide +kernel
theorem dX6_undo_43 : decode cX6_undo 43 = .ok (.imul, 1) := by decide +kernel
theorem dX6_undo_44 : decode cX6_undo 44 = .ok (.iload_n 1, 1) := by decide +kernel
theorem dX6_undo_45 : decode cX6_undo 45 = .ok (.iadd, 1) := by decide +kernel
theorem dX6_undo_46 : decode cX6_undo 46 = .ok (.iaload, 1) := by decide +kernel
theorem dX6_undo_47 : decode cX6_undo 47 = .ok (.iastore, 1) := by decide +kernel
theorem dX6_undo_48 : decode cX6_undo 48 = .ok (.iinc 1 1, 3) := by decide +kernel
theorem dX6_undo_51 : decode cX6_undo 51 = .ok (.goto (-29), 3) := by decide +kernel
theorem dX6_undo_54 : decode cX6_undo 54 = .ok (.aload_n 0, 1) := by decide +kernel
theorem dX6_undo_55 : decode cX6_undo 55 = .ok (.getfield 42, 3) := by decide +kernel
theorem dX6_undo_58 : decode cX6_undo 58 = .ok (.ireturn, 1) := by decide +kernel
theorem dX6_addStroke_0 : decode cX6_addStroke 0 = .ok (.iload_n 1, 1) := by decide +kernel
theorem dX6_addStroke_1 : decode cX6_addStroke 1 = .ok (.iconst 0, 1) := by decide +kernel
theorem dX6_addStroke_2 : decode cX6_addStroke 2 = .ok (.bipush 99, 2) := by decide +kernel
theorem dX6_addStroke_4 : decode cX6_addStroke 4 = .ok (.invokestatic 38, 3) := by decide +kernel
theorem dX6_addStroke_7 : decode cX6_addStroke 7 = .ok (.ifCond .eq 59, 3) := by decide +kernel
theorem dX6_addStroke_10 : decode cX6_addStroke 10 = .ok (.iload_n 2, 1) := by decide +kernel
theorem dX6_addStroke_11 : decode cX6_addStroke 11 = .ok (.iconst 0, 1) := by decide +kernel
theorem dX6_addStroke_12 : decode cX6_addStroke 12 = .ok (.bipush 99, 2) := by decide +kernel
theorem dX6_addStroke_14 : decode cX6_addStroke 14 = .ok (.invokestatic 38, 3) := by decide +kernel
theorem dX6_addStroke_17 : decode cX6_addStroke 17 = .ok (.ifCond .eq 49, 3) := by decide +kernel
theorem dX6_addStroke_20 : decode cX6_addStroke 20 = .ok (.iload_n 3, 1) := by decide +kernel
theorem dX6_addStroke_21 : decode cX6_addStroke 21 = .ok (.iconst 0, 1) := by decide +kernel
theorem dX6_addStroke_22 : decode cX6_addStroke 22 = .ok (.bipush 99, 2) := by decide +kernel
theorem dX6_addStroke_24 : decode cX6_addStroke 24 = .ok (.invokestatic 38, 3) := by decide +kernel
theorem dX6_addStroke_27 : decode cX6_addStroke 27 = .ok (.ifCond .eq 39, 3) := by decide +kernel
theorem dX6_addStroke_30 : decode cX6_addStroke 30 = .ok (.iload 4, 2) := by decide +kernel
theorem dX6_addStroke_32 : decode cX6_addStroke 32 = .ok (.iconst 0, 1) := by decide +kernel
theorem dX6_addStroke_33 : decode cX6_addStroke 33 = .ok (.bipush 99, 2) := by decide +kernel
theorem dX6_addStroke_35 : decode cX6_addStroke 35 = .ok (.invokestatic 38, 3) := by decide +kernel
theorem dX6_addStroke_38 : decode cX6_addStroke 38 = .ok (.ifCond .eq 28, 3) := by decide +kernel
theorem dX6_addStroke_41 : decode cX6_addStroke 41 = .ok (.iload 5, 2) := by decide +kernel
theorem dX6_addStroke_43 : decode cX6_addStroke 43 = .ok (.iconst 0, 1) := by decide +kernel
theorem dX6_addStroke_44 : decode cX6_addStroke 44 = .ok (.iconst 3, 1) := by decide +kernel
theorem dX6_addStroke_45 : decode cX6_addStroke 45 = .ok (.invokestatic 38, 3) := by decide +kernel
theorem dX6_addStroke_48 : decode cX6_addStroke 48 = .ok (.ifCond .eq 18, 3) := by decide +kernel
theorem dX6_addStroke_51 : decode cX6_addStroke 51 = .ok (.iload_n 1, 1) := by decide +kernel
theorem dX6_addStroke_52 : decode cX6_addStroke 52 = .ok (.iload_n 3, 1) := by decide +kernel
theorem dX6_addStroke_53 : decode cX6_addStroke 53 = .ok (.if_icmp .ne 9, 3) := by decide +kernel
theorem dX6_addStroke_56 : decode cX6_addStroke 56 = .ok (.iload_n 2, 1) := by decide +kernel
theorem dX6_addStroke_57 : decode cX6_addStroke 57 = .ok (.iload 4, 2) := by decide +kernel
theorem dX6_addStroke_59 : decode cX6_addStroke 59 = .ok (.if_icmp .eq 7, 3) := by decide +kernel
theorem dX6_addStroke_62 : decode cX6_addStroke 62 = .ok (.iconst 1, 1) := by decide +kernel
theorem dX6_addStroke_63 : decode cX6_addStroke 63 = .ok (.goto 4, 3) := by decide +kernel
theorem dX6_addStroke_66 : decode cX6_addStroke 66 = .ok (.iconst 0, 1) := by decide +kernel
theorem dX6_addStroke_67 : decode cX6_addStroke 67 = .ok (.istore 6, 2) := by decide +kernel
theorem dX6_addStroke_69 : decode cX6_addStroke 69 = .ok (.iload 6, 2) := by decide +kernel
theorem dX6_addStroke_71 : decode cX6_addStroke 71 = .ok (.ifCond .ne 5, 3) := by decide +kernel
theorem dX6_addStroke_74 : decode cX6_addStroke 74 = .ok (.iconst (-1), 1) := by decide +kernel
theorem dX6_addStroke_75 : decode cX6_addStroke 75 = .ok (.ireturn, 1) := by decide +kernel
theorem dX6_addStroke_76 : decode cX6_addStroke 76 = .ok (.aload_n 0, 1) := by decide +kernel
theorem dX6_addStroke_77 : decode cX6_addStroke 77 = .ok (.getfield 7, 3) := by decide +kernel
theorem dX6_addStroke_80 : decode cX6_addStroke 80 = .ok (.bipush 48, 2) := by decide +kernel
theorem dX6_addStroke_82 : decode cX6_addStroke 82 = .ok (.iaload, 1) := by decide +kernel
theorem dX6_addStroke_83 : decode cX6_addStroke 83 = .ok (.bipush 8, 2) := by decide +kernel
theorem dX6_addStroke_85 : decode cX6_addStroke 85 = .ok (.if_icmp .ne 6, 3) := by decide +kernel
theorem dX6_addStroke_88 : decode cX6_addStroke 88 = .ok (.bipush (-2), 2) := by decide +kernel
theorem dX6_addStroke_90 : decode cX6_addStroke 90 = .ok (.ireturn, 1) := by decide +kernel
theorem dX6_addStroke_91 : decode cX6_addStroke 91 = .ok (.aload_n 0, 1) := by decide +kernel
theorem dX6_addStroke_92 : decode cX6_addStroke 92 = .ok (.invokevirtual 45, 3) := by decide +kernel
theorem dX6_addStroke_95 : decode cX6_addStroke 95 = .ok (.aload_n 0, 1) := by decide +kernel
theorem dX6_addStroke_96 : decode cX6_addStroke 96 = .ok (.getfield 7, 3) := by decide +kernel
theorem dX6_addStroke_99 : decode cX6_addStroke 99 = .ok (.bipush 48, 2) := by decide +kernel
theorem dX6_addStroke_101 : decode cX6_addStroke 101 = .ok (.iaload, 1) := by decide +kernel
theorem dX6_addStroke_102 : decode cX6_addStroke 102 = .ok (.istore 7, 2) := by decide +kernel
theorem dX6_addStroke_104 : decode cX6_addStroke 104 = .ok (.aload_n 0, 1) := by decide +kernel
theorem dX6_addStroke_105 : decode cX6_addStroke 105 = .ok (.getfield 7, 3) := by decide +kernel
theorem dX6_addStroke_108 : decode cX6_addStroke 108 = .ok (.iconst 5, 1) := by decide +kernel
theorem dX6_addStroke_109 : decode cX6_addStroke 109 = .ok (.iload 7, 2) := by decide +kernel
theorem dX6_addStroke_111 : decode cX6_addStroke 111 = .ok (.imul, 1) := by decide +kernel
theorem dX6_addStroke_112 : decode cX6_addStroke 112 = .ok (.iload_n 1, 1) := by decide +kernel
theorem dX6_addStroke_113 : decode cX6_addStroke 113 = .ok (.iastore, 1) := by decide +kernel
theorem dX6_addStroke_114 : decode cX6_addStroke 114 = .ok (.aload_n 0, 1) := by decide +kernel
theorem dX6_addStroke_115 : decode cX6_addStroke 115 = .ok (.getfield 7, 3) := by decide +kernel
theorem dX6_addStroke_118 : decode cX6_addStroke 118 = .ok (.iconst 5, 1) := by decide +kernel
theorem dX6_addStroke_119 : decode cX6_addStroke 119 = .ok (.iload 7, 2) := by decide +kernel
theorem dX6_addStroke_121 : decode cX6_addStroke 121 = .ok (.imul, 1) := by decide +kernel
theorem dX6_addStroke_122 : decode cX6_addStroke 122 = .ok (.iconst 1, 1) := by decide +kernel
theorem dX6_addStroke_123 : decode cX6_addStroke 123 = .ok (.iadd, 1) := by decide +kernel
theorem dX6_addStroke_124 : decode cX6_addStroke 124 = .ok (.iload_n 2, 1) := by decide +kernel
theorem dX6_addStroke_125 : decode cX6_addStroke 125 = .ok (.iastore, 1) := by decide +kernel
theorem dX6_addStroke_126 : decode cX6_addStroke 126 = .ok (.aload_n 0, 1) := by decide +kernel
theorem dX6_addStroke_127 : decode cX6_addStroke 127 = .ok (.getfield 7, 3) := by decide +kernel
theorem dX6_addStroke_130 : decode cX6_addStroke 130 = .ok (.iconst 5, 1) := by decide +kernel
theorem dX6_addStroke_131 : decode cX6_addStroke 131 = .ok (.iload 7, 2) := by decide +kernel
theorem dX6_addStroke_133 : decode cX6_addStroke 133 = .ok (.imul, 1) := by decide +kernel
theorem dX6_addStroke_134 : decode cX6_addStroke 134 = .ok (.iconst 2, 1) := by decide +kernel
theorem dX6_addStroke_135 : decode cX6_addStroke 135 = .ok (.iadd, 1) := by decide +kernel
theorem dX6_addStroke_136 : decode cX6_addStroke 136 = .ok (.iload_n 3, 1) := by decide +kernel
theorem dX6_addStroke_137 : decode cX6_addStroke 137 = .ok (.iastore, 1) := by decide +kernel
theorem dX6_addStroke_138 : decode cX6_addStroke 138 = .ok (.aload_n 0, 1) := by decide +kernel
theorem dX6_addStroke_139 : decode cX6_addStroke 139 = .ok (.getfield 7, 3) := by decide +kernel
theorem dX6_addStroke_142 : decode cX6_addStroke 142 = .ok (.iconst 5, 1) := by decide +kernel
theorem dX6_addStroke_143 : decode cX6_addStroke 143 = .ok (.iload 7, 2) := by decide +kernel
theorem dX6_addStroke_145 : decode cX6_addStroke 145 = .ok (.imul, 1) := by decide +kernel
theorem dX6_addStroke_146 : decode cX6_addStroke 146 = .ok (.iconst 3, 1) := by decide +kernel
theorem dX6_addStroke_147 : decode cX6_addStroke 147 = .ok (.iadd, 1) := by decide +kernel
theorem dX6_addStroke_148 : decode cX6_addStroke 148 = .ok (.iload 4, 2) := by decide +kernel
theorem dX6_addStroke_150 : decode cX6_addStroke 150 = .ok (.iastore, 1) := by decide +kernel
theorem dX6_addStroke_151 : decode cX6_addStroke 151 = .ok (.aload_n 0, 1) := by decide +kernel
theorem dX6_addStroke_152 : decode cX6_addStroke 152 = .ok (.getfield 7, 3) := by decide +kernel
theorem dX6_addStroke_155 : decode cX6_addStroke 155 = .ok (.iconst 5, 1) := by decide +kernel
theorem dX6_addStroke_156 : decode cX6_addStroke 156 = .ok (.iload 7, 2) := by decide +kernel
theorem dX6_addStroke_158 : decode cX6_addStroke 158 = .ok (.imul, 1) := by decide +kernel
theorem dX6_addStroke_159 : decode cX6_addStroke 159 = .ok (.iconst 4, 1) := by decide +kernel
theorem dX6_addStroke_160 : decode cX6_addStroke 160 = .ok (.iadd, 1) := by decide +kernel
theorem dX6_addStroke_161 : decode cX6_addStroke 161 = .ok (.iload 5, 2) := by decide +kernel
theorem dX6_addStroke_163 : decode cX6_addStroke 163 = .ok (.iastore, 1) := by decide +kernel
theorem dX6_addStroke_164 : decode cX6_addStroke 164 = .ok (.aload_n 0, 1) := by decide +kernel
theorem dX6_addStroke_165 : decode cX6_addStroke 165 = .ok (.getfield 7, 3) := by decide +kernel
theorem dX6_addStroke_168 : decode cX6_addStroke 168 = .ok (.bipush 40, 2) := by decide +kernel
theorem dX6_addStroke_170 : decode cX6_addStroke 170 = .ok (.iload 7, 2) := by decide +kernel
theorem dX6_addStroke_172 : decode cX6_addStroke 172 = .ok (.iadd, 1) := by decide +kernel
theorem dX6_addStroke_173 : decode cX6_addStroke 173 = .ok (.iconst 2, 1) := by decide +kernel
theorem dX6_addStroke_174 : decode cX6_addStroke 174 = .ok (.iload 7, 2) := by decide +kernel
theorem dX6_addStroke_176 : decode cX6_addStroke 176 = .ok (.imul, 1) := by decide +kernel
theorem dX6_addStroke_177 : decode cX6_addStroke 177 = .ok (.iastore, 1) := by decide +kernel
theorem dX6_addStroke_178 : decode cX6_addStroke 178 = .ok (.aload_n 0, 1) := by decide +kernel
theorem dX6_addStroke_179 : decode cX6_addStroke 179 = .ok (.getfield 7, 3) := by decide +kernel
theorem dX6_addStroke_182 : decode cX6_addStroke 182 = .ok (.bipush 48, 2) := by decide +kernel
theorem dX6_addStroke_184 : decode cX6_addStroke 184 = .ok (.dup2, 1) := by decide +kernel
theorem dX6_addStroke_185 : decode cX6_addStroke 185 = .ok (.iaload, 1) := by decide +kernel
theorem dX6_addStroke_186 : decode cX6_addStroke 186 = .ok (.iconst 1, 1) := by decide +kernel
theorem dX6_addStroke_187 : decode cX6_addStroke 187 = .ok (.iadd, 1) := by decide +kernel
theorem dX6_addStroke_188 : decode cX6_addStroke 188 = .ok (.iastore, 1) := by decide +kernel
theorem dX6_addStroke_189 : decode cX6_addStroke 189 = .ok (.iload 7, 2) := by decide +kernel
theorem dX6_addStroke_191 : decode cX6_addStroke 191 = .ok (.ireturn, 1) := by decide +kernel
theorem dX6_removes_0 : decode cX6_removes 0 = .ok (.iconst 0, 1) := by decide +kernel
theorem dX6_removes_1 : decode cX6_removes 1 = .ok (.istore_n 2, 1) := by decide +kernel
theorem dX6_removes_2 : decode cX6_removes 2 = .ok (.aload_n 0, 1) := by decide +kernel
theorem dX6_removes_3 : decode cX6_removes 3 = .ok (.getfield 7, 3) := by decide +kernel
theorem dX6_removes_6 : decode cX6_removes 6 = .ok (.bipush 40, 2) := by decide +kernel
theorem dX6_removes_8 : decode cX6_removes 8 = .ok (.iload_n 2, 1) := by decide +kernel
theorem dX6_removes_9 : decode cX6_removes 9 = .ok (.iadd, 1) := by decide +kernel
theorem dX6_removes_10 : decode cX6_removes 10 = .ok (.iaload, 1) := by decide +kernel
theorem dX6_removes_11 : decode cX6_removes 11 = .ok (.iconst 2, 1) := by decide +kernel
theorem dX6_removes_12 : decode cX6_removes 12 = .ok (.idiv, 1) := by decide +kernel
theorem dX6_removes_13 : decode cX6_removes 13 = .ok (.iload_n 1, 1) := by decide +kernel
theorem dX6_removes_14 : decode cX6_removes 14 = .ok (.if_icmp .eq 9, 3) := by decide +kernel
theorem dX6_removes_17 : decode cX6_removes 17 = .ok (.iinc 2 1, 3) := by decide +kernel
theorem dX6_removes_20 : decode cX6_removes 20 = .ok (.goto (-18), 3) := by decide +kernel
theorem dX6_removes_23 : decode cX6_removes 23 = .ok (.aload_n 0, 1) := by decide +kernel
theorem dX6_removes_24 : decode cX6_removes 24 = .ok (.getfield 7, 3) := by decide +kernel
theorem dX6_removes_27 : decode cX6_removes 27 = .ok (.bipush 48, 2) := by decide +kernel
theorem dX6_removes_29 : decode cX6_removes 29 = .ok (.dup2, 1) := by decide +kernel
theorem dX6_removes_30 : decode cX6_removes 30 = .ok (.iaload, 1) := by decide +kernel
theorem dX6_removes_31 : decode cX6_removes 31 = .ok (.iconst 1, 1) := by decide +kernel
theorem dX6_removes_32 : decode cX6_removes 32 = .ok (.isub, 1) := by decide +kernel
theorem dX6_removes_33 : decode cX6_removes 33 = .ok (.iastore, 1) := by decide +kernel
theorem dX6_removes_34 : decode cX6_removes 34 = .ok (.iload_n 2, 1) := by decide +kernel
theorem dX6_removes_35 : decode cX6_removes 35 = .ok (.istore_n 3, 1) := by decide +kernel
theorem dX6_removes_36 : decode cX6_removes 36 = .ok (.iload_n 3, 1) := by decide +kernel
theorem dX6_removes_37 : decode cX6_removes 37 = .ok (.aload_n 0, 1) := by decide +kernel
theorem dX6_removes_38 : decode cX6_removes 38 = .ok (.getfield 7, 3) := by decide +kernel
theorem dX6_removes_41 : decode cX6_removes 41 = .ok (.bipush 48, 2) := by decide +kernel
theorem dX6_removes_43 : decode cX6_removes 43 = .ok (.iaload, 1) := by decide +kernel
theorem dX6_removes_44 : decode cX6_removes 44 = .ok (.if_icmp .ge 29, 3) := by decide +kernel
theorem dX6_removes_47 : decode cX6_removes 47 = .ok (.aload_n 0, 1) := by decide +kernel
theorem dX6_removes_48 : decode cX6_removes 48 = .ok (.getfield 7, 3) := by decide +kernel
theorem dX6_removes_51 : decode cX6_removes 51 = .ok (.bipush 40, 2) := by decide +kernel
theorem dX6_removes_53 : decode cX6_removes 53 = .ok (.iload_n 3, 1) := by decide +kernel
theorem dX6_removes_54 : decode cX6_removes 54 = .ok (.iadd, 1) := by decide +kernel
theorem dX6_removes_55 : decode cX6_removes 55 = .ok (.aload_n 0, 1) := by decide +kernel
theorem dX6_removes_56 : decode cX6_removes 56 = .ok (.getfield 7, 3) := by decide +kernel
theorem dX6_removes_59 : decode cX6_removes 59 = .ok (.bipush 40, 2) := by decide +kernel
theorem dX6_removes_61 : decode cX6_removes 61 = .ok (.iload_n 3, 1) := by decide +kernel
theorem dX6_removes_62 : decode cX6_removes 62 = .ok (.iadd, 1) := by decide +kernel
theorem dX6_removes_63 : decode cX6_removes 63 = .ok (.iconst 1, 1) := by decide +kernel
theorem dX6_removes_64 : decode cX6_removes 64 = .ok (.iadd, 1) := by decide +kernel
theorem dX6_removes_65 : decode cX6_removes 65 = .ok (.iaload, 1) := by decide +kernel
theorem dX6_removes_66 : decode cX6_removes 66 = .ok (.iastore, 1) := by decide +kernel
theorem dX6_removes_67 : decode cX6_removes 67 = .ok (.iinc 3 1, 3) := by decide +kernel
theorem dX6_removes_70 : decode cX6_removes 70 = .ok (.goto (-34), 3) := by decide +kernel
theorem dX6_removes_73 : decode cX6_removes 73 = .ok (.iconst 0, 1) := by decide +kernel
theorem dX6_removes_74 : decode cX6_removes 74 = .ok (.istore_n 3, 1) := by decide +kernel
theorem dX6_removes_75 : decode cX6_removes 75 = .ok (.iload_n 3, 1) := by decide +kernel
theorem dX6_removes_76 : decode cX6_removes 76 = .ok (.aload_n 0, 1) := by decide +kernel
theorem dX6_removes_77 : decode cX6_removes 77 = .ok (.getfield 7, 3) := by decide +kernel
theorem dX6_removes_80 : decode cX6_removes 80 = .ok (.bipush 48, 2) := by decide +kernel
theorem dX6_removes_82 : decode cX6_removes 82 = .ok (.iaload, 1) := by decide +kernel
theorem dX6_removes_83 : decode cX6_removes 83 = .ok (.if_icmp .ge 41, 3) := by decide +kernel
theorem dX6_removes_86 : decode cX6_removes 86 = .ok (.aload_n 0, 1) := by decide +kernel
theorem dX6_removes_87 : decode cX6_removes 87 = .ok (.getfield 7, 3) := by decide +kernel
theorem dX6_removes_90 : decode cX6_removes 90 = .ok (.bipush 40, 2) := by decide +kernel
theorem dX6_removes_92 : decode cX6_removes 92 = .ok (.iload_n 3, 1) := by decide +kernel
theorem dX6_removes_93 : decode cX6_removes 93 = .ok (.iadd, 1) := by decide +kernel
theorem dX6_removes_94 : decode cX6_removes 94 = .ok (.dup2, 1) := by decide +kernel
theorem dX6_removes_95 : decode cX6_removes 95 = .ok (.iaload, 1) := by decide +kernel
theorem dX6_removes_96 : decode cX6_removes 96 = .ok (.aload_n 0, 1) := by decide +kernel
theorem dX6_removes_97 : decode cX6_removes 97 = .ok (.getfield 7, 3) := by decide +kernel
theorem dX6_removes_100 : decode cX6_removes 100 = .ok (.bipush 40, 2) := by decide +kernel
theorem dX6_removes_102 : decode cX6_removes 102 = .ok (.iload_n 3, 1) := by decide +kernel
theorem dX6_removes_103 : decode cX6_removes 103 = .ok (.iadd, 1) := by decide +kernel
theorem dX6_removes_104 : decode cX6_removes 104 = .ok (.iaload, 1) := by decide +kernel
theorem dX6_removes_105 : decode cX6_removes 105 = .ok (.iconst 2, 1) := by decide +kernel
theorem dX6_removes_106 : decode cX6_removes 106 = .ok (.idiv, 1) := by decide +kernel
theorem dX6_removes_107 : decode cX6_removes 107 = .ok (.iload_n 1, 1) := by decide +kernel
theorem dX6_removes_108 : decode cX6_removes 108 = .ok (.if_icmp .le 7, 3) := by decide +kernel
theorem dX6_removes_111 : decode cX6_removes 111 = .ok (.iconst 2, 1) := by decide +kernel
theorem dX6_removes_112 : decode cX6_removes 112 = .ok (.goto 4, 3) := by decide +kernel
theorem dX6_removes_115 : decode cX6_removes 115 = .ok (.iconst 0, 1) := by decide +kernel
theorem dX6_removes_116 : decode cX6_removes 116 = .ok (.isub, 1) := by decide +kernel
theorem dX6_removes_117 : decode cX6_removes 117 = .ok (.iastore, 1) := by decide +kernel
theorem dX6_removes_118 : decode cX6_removes 118 = .ok (.iinc 3 1, 3) := by decide +kernel
theorem dX6_removes_121 : decode cX6_removes 121 = .ok (.goto (-46), 3) := by decide +kernel
theorem dX6_removes_124 : decode cX6_removes 124 = .ok (.iconst 5, 1) := by decide +kernel
theorem dX6_removes_125 : decode cX6_removes 125 = .ok (.iload_n 1, 1) := by decide +kernel
theorem dX6_removes_126 : decode cX6_removes 126 = .ok (.imul, 1) := by decide +kernel
theorem dX6_removes_127 : decode cX6_removes 127 = .ok (.istore_n 3, 1) := by decide +kernel
theorem dX6_removes_128 : decode cX6_removes 128 = .ok (.iload_n 3, 1) := by decide +kernel
theorem dX6_removes_129 : decode cX6_removes 129 = .ok (.iconst 5, 1) := by decide +kernel
theorem dX6_removes_130 : decode cX6_removes 130 = .ok (.aload_n 0, 1) := by decide +kernel
theorem dX6_removes_131 : decode cX6_removes 131 = .ok (.getfield 7, 3) := by decide +kernel
theorem dX6_removes_134 : decode cX6_removes 134 = .ok (.bipush 48, 2) := by decide +kernel
theorem dX6_removes_136 : decode cX6_removes 136 = .ok (.iaload, 1) := by decide +kernel
theorem dX6_removes_137 : decode cX6_removes 137 = .ok (.imul, 1) := by decide +kernel
theorem dX6_removes_138 : decode cX6_removes 138 = .ok (.if_icmp .ge 23, 3) := by decide +kernel
theorem dX6_removes_141 : decode cX6_removes 141 = .ok (.aload_n 0, 1) := by decide +kernel
theorem dX6_removes_142 : decode cX6_removes 142 = .ok (.getfield 7, 3) := by decide +kernel
theorem dX6_removes_145 : decode cX6_removes 145 = .ok (.iload_n 3, 1) := by decide +kernel
theorem dX6_removes_146 : decode cX6_removes 146 = .ok (.aload_n 0, 1) := by decide +kernel
theorem dX6_removes_147 : decode cX6_removes 147 = .ok (.getfield 7, 3) := by decide +kernel
theorem dX6_removes_150 : decode cX6_removes 150 = .ok (.iload_n 3, 1) := by decide +kernel
theorem dX6_removes_151 : decode cX6_removes 151 = .ok (.iconst 5, 1) := by decide +kernel
theorem dX6_removes_152 : decode cX6_removes 152 = .ok (.iadd, 1) := by decide +kernel
theorem dX6_removes_153 : decode cX6_removes 153 = .ok (.iaload, 1) := by decide +kernel
theorem dX6_removes_154 : decode cX6_removes 154 = .ok (.iastore, 1) := by decide +kernel
theorem dX6_removes_155 : decode cX6_removes 155 = .ok (.iinc 3 1, 3) := by decide +kernel
theorem dX6_removes_158 : decode cX6_removes 158 = .ok (.goto (-30), 3) := by decide +kernel
theorem dX6_removes_161 : decode cX6_removes 161 = .ok (.return_, 1) := by decide +kernel
theorem dX6_removeStroke_0 : decode cX6_removeStroke 0 = .ok (.aload_n 0, 1) := by decide +kernel
theorem dX6_removeStroke_1 : decode cX6_removeStroke 1 = .ok (.iload_n 1, 1) := by decide +kernel
theorem dX6_removeStroke_2 : decode cX6_removeStroke 2 = .ok (.invokevirtual 48, 3) := by decide +kernel
theorem dX6_removeStroke_5 : decode cX6_removeStroke 5 = .ok (.ifCond .ne 5, 3) := by decide +kernel
theorem dX6_removeStroke_8 : decode cX6_removeStroke 8 = .ok (.iconst (-1), 1) := by decide +kernel
theorem dX6_removeStroke_9 : decode cX6_removeStroke 9 = .ok (.ireturn, 1) := by decide +kernel
theorem dX6_removeStroke_10 : decode cX6_removeStroke 10 = .ok (.aload_n 0, 1) := by decide +kernel
theorem dX6_removeStroke_11 : decode cX6_removeStroke 11 = .ok (.invokevirtual 45, 3) := by decide +kernel
theorem dX6_removeStroke_14 : decode cX6_removeStroke 14 = .ok (.aload_n 0, 1) := by decide +kernel
theorem dX6_removeStroke_15 : decode cX6_removeStroke 15 = .ok (.iload_n 1, 1) := by decide +kernel
theorem dX6_removeStroke_16 : decode cX6_removeStroke 16 = .ok (.invokevirtual 52, 3) := by decide +kernel
theorem dX6_removeStroke_19 : decode cX6_removeStroke 19 = .ok (.aload_n 0, 1) := by decide +kernel
theorem dX6_removeStroke_20 : decode cX6_removeStroke 20 = .ok (.getfield 7, 3) := by decide +kernel
theorem dX6_removeStroke_23 : decode cX6_removeStroke 23 = .ok (.bipush 48, 2) := by decide +kernel
theorem dX6_removeStroke_25 : decode cX6_removeStroke 25 = .ok (.iaload, 1) := by decide +kernel
theorem dX6_removeStroke_26 : decode cX6_removeStroke 26 = .ok (.ireturn, 1) := by decide +kernel
theorem dX6_strokeCount_0 : decode cX6_strokeCount 0 = .ok (.aload_n 0, 1) := by decide +kernel
theorem dX6_strokeCount_1 : decode cX6_strokeCount 1 = .ok (.getfield 7, 3) := by decide +kernel
theorem dX6_strokeCount_4 : decode cX6_strokeCount 4 = .ok (.bipush 48, 2) := by decide +kernel
theorem dX6_strokeCount_6 : decode cX6_strokeCount 6 = .ok (.iaload, 1) := by decide +kernel
theorem dX6_strokeCount_7 : decode cX6_strokeCount 7 = .ok (.ireturn, 1) := by decide +kernel
theorem dX6_penAt_0 : decode cX6_penAt 0 = .ok (.aload_n 0, 1) := by decide +kernel
theorem dX6_penAt_1 : decode cX6_penAt 1 = .ok (.getfield 7, 3) := by decide +kernel
theorem dX6_penAt_4 : decode cX6_penAt 4 = .ok (.iconst 5, 1) := by decide +kernel
theorem dX6_penAt_5 : decode cX6_penAt 5 = .ok (.iload_n 1, 1) := by decide +kernel
theorem dX6_penAt_6 : decode cX6_penAt 6 = .ok (.imul, 1) := by decide +kernel
theorem dX6_penAt_7 : decode cX6_penAt 7 = .ok (.iconst 4, 1) := by decide +kernel
theorem dX6_penAt_8 : decode cX6_penAt 8 = .ok (.iadd, 1) := by decide +kernel
theorem dX6_penAt_9 : decode cX6_penAt 9 = .ok (.iaload, 1) := by decide +kernel
theorem dX6_penAt_10 : decode cX6_penAt 10 = .ok (.ireturn, 1) := by decide +kernel
theorem dX6_penOf_0 : decode cX6_penOf 0 = .ok (.aload_n 0, 1) := by decide +kernel
theorem dX6_penOf_1 : decode cX6_penOf 1 = .ok (.iload_n 1, 1) := by decide +kernel
theorem dX6_penOf_2 : decode cX6_penOf 2 = .ok (.invokevirtual 48, 3) := by decide +kernel
theorem dX6_penOf_5 : decode cX6_penOf 5 = .ok (.ifCond .eq 11, 3) := by decide +kernel
theorem dX6_penOf_8 : decode cX6_penOf 8 = .ok (.aload_n 0, 1) := by decide +kernel
theorem dX6_penOf_9 : decode cX6_penOf 9 = .ok (.iload_n 1, 1) := by decide +kernel
theorem dX6_penOf_10 : decode cX6_penOf 10 = .ok (.invokevirtual 56, 3) := by decide +kernel
theorem dX6_penOf_13 : decode cX6_penOf 13 = .ok (.goto 4, 3) := by decide +kernel
theorem dX6_penOf_16 : decode cX6_penOf 16 = .ok (.iconst (-1), 1) := by decide +kernel
theorem dX6_penOf_17 : decode cX6_penOf 17 = .ok (.ireturn, 1) := by decide +kernel
theorem dX6_areAlike_0 : decode cX6_areAlike 0 = .ok (.aload_n 0, 1) := by decide +kernel
theorem dX6_areAlike_1 : decode cX6_areAlike 1 = .ok (.getfield 7, 3) := by decide +kernel
theorem dX6_areAlike_4 : decode cX6_areAlike 4 = .ok (.iconst 5, 1) := by decide +kernel
theorem dX6_areAlike_5 : decode cX6_areAlike 5 = .ok (.iload_n 1, 1) := by decide +kernel
theorem dX6_areAlike_6 : decode cX6_areAlike 6 = .ok (.imul, 1) := by decide +kernel
theorem dX6_areAlike_7 : decode cX6_areAlike 7 = .ok (.iaload, 1) := by decide +kernel
theorem dX6_areAlike_8 : decode cX6_areAlike 8 = .ok (.aload_n 0, 1) := by decide +kernel
theorem dX6_areAlike_9 : decode cX6_areAlike 9 = .ok (.getfield 7, 3) := by decide +kernel
theorem dX6_areAlike_12 : decode cX6_areAlike 12 = .ok (.iconst 5, 1) := by decide +kernel
theorem dX6_areAlike_13 : decode cX6_areAlike 13 = .ok (.iload_n 2, 1) := by decide +kernel
theorem dX6_areAlike_14 : decode cX6_areAlike 14 = .ok (.imul, 1) := by decide +kernel
theorem dX6_areAlike_15 : decode cX6_areAlike 15 = .ok (.iaload, 1) := by decide +kernel
theorem dX6_areAlike_16 : decode cX6_areAlike 16 = .ok (.if_icmp .ne 76, 3) := by decide +kernel
theorem dX6_areAlike_19 : decode cX6_areAlike 19 = .ok (.aload_n 0, 1) := by decide +kernel
theorem dX6_areAlike_20 : decode cX6_areAlike 20 = .ok (.getfield 7, 3) := by decide +kernel
theorem dX6_areAlike_23 : decode cX6_areAlike 23 = .ok (.iconst 5, 1) := by decide +kernel
theorem dX6_areAlike_24 : decode cX6_areAlike 24 = .ok (.iload_n 1, 1) := by decide +kernel
theorem dX6_areAlike_25 : decode cX6_areAlike 25 = .ok (.imul, 1) := by decide +kernel
theorem dX6_areAlike_26 : decode cX6_areAlike 26 = .ok (.iconst 1, 1) := by decide +kernel
theorem dX6_areAlike_27 : decode cX6_areAlike 27 = .ok (.iadd, 1) := by decide +kernel
theorem dX6_areAlike_28 : decode cX6_areAlike 28 = .ok (.iaload, 1) := by decide +kernel
theorem dX6_areAlike_29 : decode cX6_areAlike 29 = .ok (.aload_n 0, 1) := by decide +kernel
theorem dX6_areAlike_30 : decode cX6_areAlike 30 = .ok (.getfield 7, 3) := by decide +kernel
theorem dX6_areAlike_33 : decode cX6_areAlike 33 = .ok (.iconst 5, 1) := by decide +kernel
theorem dX6_areAlike_34 : decode cX6_areAlike 34 = .ok (.iload_n 2, 1) := by decide +kernel
theorem dX6_areAlike_35 : decode cX6_areAlike 35 = .ok (.imul, 1) := by decide +kernel
theorem dX6_areAlike_36 : decode cX6_areAlike 36 = .ok (.iconst 1, 1) := by decide +kernel
theorem dX6_areAlike_37 : decode cX6_areAlike 37 = .ok (.iadd, 1) := by decide +kernel
theorem dX6_areAlike_38 : decode cX6_areAlike 38 = .ok (.iaload, 1) := by decide +kernel
theorem dX6_areAlike_39 : decode cX6_areAlike 39 = .ok (.if_icmp .ne 53, 3) := by decide +kernel
theorem dX6_areAlike_42 : decode cX6_areAlike 42 = .ok (.aload_n 0, 1) := by decide +kernel
theorem dX6_areAlike_43 : decode cX6_areAlike 43 = .ok (.getfield 7, 3) := by decide +kernel
theorem dX6_areAlike_46 : decode cX6_areAlike 46 = .ok (.iconst 5, 1) := by decide +kernel
theorem dX6_areAlike_47 : decode cX6_areAlike 47 = .ok (.iload_n 1, 1) := by decide +kernel
theorem dX6_areAlike_48 : decode cX6_areAlike 48 = .ok (.imul, 1) := by decide +kernel
theorem dX6_areAlike_49 : decode cX6_areAlike 49 = .ok (.iconst 2, 1) := by decide +kernel
theorem dX6_areAlike_50 : decode cX6_areAlike 50 = .ok (.iadd, 1) := by decide +kernel
theorem dX6_areAlike_51 : decode cX6_areAlike 51 = .ok (.iaload, 1) := by decide +kernel
theorem dX6_areAlike_52 : decode cX6_areAlike 52 = .ok (.aload_n 0, 1) := by decide +kernel
theorem dX6_areAlike_53 : decode cX6_areAlike 53 = .ok (.getfield 7, 3) := by decide +kernel
theorem dX6_areAlike_56 : decode cX6_areAlike 56 = .ok (.iconst 5, 1) := by decide +kernel
theorem dX6_areAlike_57 : decode cX6_areAlike 57 = .ok (.iload_n 2, 1) := by decide +kernel
theorem dX6_areAlike_58 : decode cX6_areAlike 58 = .ok (.imul, 1) := by decide +kernel
theorem dX6_areAlike_59 : decode cX6_areAlike 59 = .ok (.iconst 2, 1) := by decide +kernel
theorem dX6_areAlike_60 : decode cX6_areAlike 60 = .ok (.iadd, 1) := by decide +kernel
theorem dX6_areAlike_61 : decode cX6_areAlike 61 = .ok (.iaload, 1) := by decide +kernel
theorem dX6_areAlike_62 : decode cX6_areAlike 62 = .ok (.if_icmp .ne 30, 3) := by decide +kernel
theorem dX6_areAlike_65 : decode cX6_areAlike 65 = .ok (.aload_n 0, 1) := by decide +kernel
theorem dX6_areAlike_66 : decode cX6_areAlike 66 = .ok (.getfield 7, 3) := by decide +kernel
theorem dX6_areAlike_69 : decode cX6_areAlike 69 = .ok (.iconst 5, 1) := by decide +kernel
theorem dX6_areAlike_70 : decode cX6_areAlike 70 = .ok (.iload_n 1, 1) := by decide +kernel
theorem dX6_areAlike_71 : decode cX6_areAlike 71 = .ok (.imul, 1) := by decide +kernel
theorem dX6_areAlike_72 : decode cX6_areAlike 72 = .ok (.iconst 3, 1) := by decide +kernel
theorem dX6_areAlike_73 : decode cX6_areAlike 73 = .ok (.iadd, 1) := by decide +kernel
theorem dX6_areAlike_74 : decode cX6_areAlike 74 = .ok (.iaload, 1) := by decide +kernel
theorem dX6_areAlike_75 : decode cX6_areAlike 75 = .ok (.aload_n 0, 1) := by decide +kernel
theorem dX6_areAlike_76 : decode cX6_areAlike 76 = .ok (.getfield 7, 3) := by decide +kernel
theorem dX6_areAlike_79 : decode cX6_areAlike 79 = .ok (.iconst 5, 1) := by decide +kernel
theorem dX6_areAlike_80 : decode cX6_areAlike 80 = .ok (.iload_n 2, 1) := by decide +kernel
theorem dX6_areAlike_81 : decode cX6_areAlike 81 = .ok (.imul, 1) := by decide +kernel
theorem dX6_areAlike_82 : decode cX6_areAlike 82 = .ok (.iconst 3, 1) := by decide +kernel
theorem dX6_areAlike_83 : decode cX6_areAlike 83 = .ok (.iadd, 1) := by decide +kernel
theorem dX6_areAlike_84 : decode cX6_areAlike 84 = .ok (.iaload, 1) := by decide +kernel
theorem dX6_areAlike_85 : decode cX6_areAlike 85 = .ok (.if_icmp .ne 7, 3) := by decide +kernel
theorem dX6_areAlike_88 : decode cX6_areAlike 88 = .ok (.iconst 1, 1) := by decide +kernel
theorem dX6_areAlike_89 : decode cX6_areAlike 89 = .ok (.goto 4, 3) := by decide +kernel
theorem dX6_areAlike_92 : decode cX6_areAlike 92 = .ok (.iconst 0, 1) := by decide +kernel
theorem dX6_areAlike_93 : decode cX6_areAlike 93 = .ok (.istore_n 3, 1) := by decide +kernel
theorem dX6_areAlike_94 : decode cX6_areAlike 94 = .ok (.aload_n 0, 1) := by decide +kernel
theorem dX6_areAlike_95 : decode cX6_areAlike 95 = .ok (.getfield 7, 3) := by decide +kernel
theorem dX6_areAlike_98 : decode cX6_areAlike 98 = .ok (.iconst 5, 1) := by decide +kernel
theorem dX6_areAlike_99 : decode cX6_areAlike 99 = .ok (.iload_n 1, 1) := by decide +kernel
theorem dX6_areAlike_100 : decode cX6_areAlike 100 = .ok (.imul, 1) := by decide +kernel
theorem dX6_areAlike_101 : decode cX6_areAlike 101 = .ok (.iaload, 1) := by decide +kernel
theorem dX6_areAlike_102 : decode cX6_areAlike 102 = .ok (.aload_n 0, 1) := by decide +kernel
theorem dX6_areAlike_103 : decode cX6_areAlike 103 = .ok (.getfield 7, 3) := by decide +kernel
theorem dX6_areAlike_106 : decode cX6_areAlike 106 = .ok (.iconst 5, 1) := by decide +kernel
theorem dX6_areAlike_107 : decode cX6_areAlike 107 = .ok (.iload_n 2, 1) := by decide +kernel
theorem dX6_areAlike_108 : decode cX6_areAlike 108 = .ok (.imul, 1) := by decide +kernel
theorem dX6_areAlike_109 : decode cX6_areAlike 109 = .ok (.iconst 2, 1) := by decide +kernel
theorem dX6_areAlike_110 : decode cX6_areAlike 110 = .ok (.iadd, 1) := by decide +kernel
theorem dX6_areAlike_111 : decode cX6_areAlike 111 = .ok (.iaload, 1) := by decide +kernel
theorem dX6_areAlike_112 : decode cX6_areAlike 112 = .ok (.if_icmp .ne 74, 3) := by decide +kernel
theorem dX6_areAlike_115 : decode cX6_areAlike 115 = .ok (.aload_n 0, 1) := by decide +kernel
theorem dX6_areAlike_116 : decode cX6_areAlike 116 = .ok (.getfield 7, 3) := by decide +kernel
theorem dX6_areAlike_119 : decode cX6_areAlike 119 = .ok (.iconst 5, 1) := by decide +kernel
theorem dX6_areAlike_120 : decode cX6_areAlike 120 = .ok (.iload_n 1, 1) := by decide +kernel
theorem dX6_areAlike_121 : decode cX6_areAlike 121 = .ok (.imul, 1) := by decide +kernel
theorem dX6_areAlike_122 : decode cX6_areAlike 122 = .ok (.iconst 1, 1) := by decide +kernel
theorem dX6_areAlike_123 : decode cX6_areAlike 123 = .ok (.iadd, 1) := by decide +kernel
theorem dX6_areAlike_124 : decode cX6_areAlike 124 = .ok (.iaload, 1) := by decide +kernel
theorem dX6_areAlike_125 : decode cX6_areAlike 125 = .ok (.aload_n 0, 1) := by decide +kernel
theorem dX6_areAlike_126 : decode cX6_areAlike 126 = .ok (.getfield 7, 3) := by decide +kernel
theorem dX6_areAlike_129 : decode cX6_areAlike 129 = .ok (.iconst 5, 1) := by decide +kernel
theorem dX6_areAlike_130 : decode cX6_areAlike 130 = .ok (.iload_n 2, 1) := by decide +kernel
theorem dX6_areAlike_131 : decode cX6_areAlike 131 = .ok (.imul, 1) := by decide +kernel
theorem dX6_areAlike_132 : decode cX6_areAlike 132 = .ok (.iconst 3, 1) := by decide +kernel
theorem dX6_areAlike_133 : decode cX6_areAlike 133 = .ok (.iadd, 1) := by decide +kernel
theorem dX6_areAlike_134 : decode cX6_areAlike 134 = .ok (.iaload, 1) := by decide +kernel
theorem dX6_areAlike_135 : decode cX6_areAlike 135 = .ok (.if_icmp .ne 51, 3) := by decide +kernel
theorem dX6_areAlike_138 : decode cX6_areAlike 138 = .ok (.aload_n 0, 1) := by decide +kernel
theorem dX6_areAlike_139 : decode cX6_areAlike 139 = .ok (.getfield 7, 3) := by decide +kernel
theorem dX6_areAlike_142 : decode cX6_areAlike 142 = .ok (.iconst 5, 1) := by decide +kernel
theorem dX6_areAlike_143 : decode cX6_areAlike 143 = .ok (.iload_n 1, 1) := by decide +kernel
theorem dX6_areAlike_144 : decode cX6_areAlike 144 = .ok (.imul, 1) := by decide +kernel
theorem dX6_areAlike_145 : decode cX6_areAlike 145 = .ok (.iconst 2, 1) := by decide +kernel
theorem dX6_areAlike_146 : decode cX6_areAlike 146 = .ok (.iadd, 1) := by decide +kernel
theorem dX6_areAlike_147 : decode cX6_areAlike 147 = .ok (.iaload, 1) := by decide +kernel
theorem dX6_areAlike_148 : decode cX6_areAlike 148 = .ok (.aload_n 0, 1) := by decide +kernel
theorem dX6_areAlike_149 : decode cX6_areAlike 149 = .ok (.getfield 7, 3) := by decide +kernel
theorem dX6_areAlike_152 : decode cX6_areAlike 152 = .ok (.iconst 5, 1) := by decide +kernel
theorem dX6_areAlike_153 : decode cX6_areAlike 153 = .ok (.iload_n 2, 1) := by decide +kernel
theorem dX6_areAlike_154 : decode cX6_areAlike 154 = .ok (.imul, 1) := by decide +kernel
theorem dX6_areAlike_155 : decode cX6_areAlike 155 = .ok (.iaload, 1) := by decide +kernel
theorem dX6_areAlike_156 : decode cX6_areAlike 156 = .ok (.if_icmp .ne 30, 3) := by decide +kernel
theorem dX6_areAlike_159 : decode cX6_areAlike 159 = .ok (.aload_n 0, 1) := by decide +kernel
theorem dX6_areAlike_160 : decode cX6_areAlike 160 = .ok (.getfield 7, 3) := by decide +kernel
theorem dX6_areAlike_163 : decode cX6_areAlike 163 = .ok (.iconst 5, 1) := by decide +kernel
theorem dX6_areAlike_164 : decode cX6_areAlike 164 = .ok (.iload_n 1, 1) := by decide +kernel
theorem dX6_areAlike_165 : decode cX6_areAlike 165 = .ok (.imul, 1) := by decide +kernel
theorem dX6_areAlike_166 : decode cX6_areAlike 166 = .ok (.iconst 3, 1) := by decide +kernel
theorem dX6_areAlike_167 : decode cX6_areAlike 167 = .ok (.iadd, 1) := by decide +kernel
theorem dX6_areAlike_168 : decode cX6_areAlike 168 = .ok (.iaload, 1) := by decide +kernel
theorem dX6_areAlike_169 : decode cX6_areAlike 169 = .ok (.aload_n 0, 1) := by decide +kernel
theorem dX6_areAlike_170 : decode cX6_areAlike 170 = .ok (.getfield 7, 3) := by decide +kernel
theorem dX6_areAlike_173 : decode cX6_areAlike 173 = .ok (.iconst 5, 1) := by decide +kernel
theorem dX6_areAlike_174 : decode cX6_areAlike 174 = .ok (.iload_n 2, 1) := by decide +kernel
theorem dX6_areAlike_175 : decode cX6_areAlike 175 = .ok (.imul, 1) := by decide +kernel
theorem dX6_areAlike_176 : decode cX6_areAlike 176 = .ok (.iconst 1, 1) := by decide +kernel
theorem dX6_areAlike_177 : decode cX6_areAlike 177 = .ok (.iadd, 1) := by decide +kernel
theorem dX6_areAlike_178 : decode cX6_areAlike 178 = .ok (.iaload, 1) := by decide +kernel
theorem dX6_areAlike_179 : decode cX6_areAlike 179 = .ok (.if_icmp .ne 7, 3) := by decide +kernel
theorem dX6_areAlike_182 : decode cX6_areAlike 182 = .ok (.iconst 1, 1) := by decide +kernel
theorem dX6_areAlike_183 : decode cX6_areAlike 183 = .ok (.goto 4, 3) := by decide +kernel
theorem dX6_areAlike_186 : decode cX6_areAlike 186 = .ok (.iconst 0, 1) := by decide +kernel
theorem dX6_areAlike_187 : decode cX6_areAlike 187 = .ok (.istore 4, 2) := by decide +kernel
theorem dX6_areAlike_189 : decode cX6_areAlike 189 = .ok (.aload_n 0, 1) := by decide +kernel
theorem dX6_areAlike_190 : decode cX6_areAlike 190 = .ok (.iload_n 1, 1) := by decide +kernel
theorem dX6_areAlike_191 : decode cX6_areAlike 191 = .ok (.invokevirtual 56, 3) := by decide +kernel
theorem dX6_areAlike_194 : decode cX6_areAlike 194 = .ok (.aload_n 0, 1) := by decide +kernel
theorem dX6_areAlike_195 : decode cX6_areAlike 195 = .ok (.iload_n 2, 1) := by decide +kernel
theorem dX6_areAlike_196 : decode cX6_areAlike 196 = .ok (.invokevirtual 56, 3) := by decide +kernel
theorem dX6_areAlike_199 : decode cX6_areAlike 199 = .ok (.if_icmp .ne 16, 3) := by decide +kernel
theorem dX6_areAlike_202 : decode cX6_areAlike 202 = .ok (.iload_n 3, 1) := by decide +kernel
theorem dX6_areAlike_203 : decode cX6_areAlike 203 = .ok (.ifCond .ne 8, 3) := by decide +kernel
theorem dX6_areAlike_206 : decode cX6_areAlike 206 = .ok (.iload 4, 2) := by decide +kernel
theorem dX6_areAlike_208 : decode cX6_areAlike 208 = .ok (.ifCond .eq 7, 3) := by decide +kernel
theorem dX6_areAlike_211 : decode cX6_areAlike 211 = .ok (.iconst 1, 1) := by decide +kernel
theorem dX6_areAlike_212 : decode cX6_areAlike 212 = .ok (.goto 4, 3) := by decide +kernel
theorem dX6_areAlike_215 : decode cX6_areAlike 215 = .ok (.iconst 0, 1) := by decide +kernel
theorem dX6_areAlike_216 : decode cX6_areAlike 216 = .ok (.ireturn, 1) := by decide +kernel
theorem dX6_alikeTo_0 : decode cX6_alikeTo 0 = .ok (.aload_n 0, 1) := by decide +kernel
theorem dX6_alikeTo_1 : decode cX6_alikeTo 1 = .ok (.iload_n 1, 1) := by decide +kernel
theorem dX6_alikeTo_2 : decode cX6_alikeTo 2 = .ok (.invokevirtual 48, 3) := by decide +kernel
theorem dX6_alikeTo_5 : decode cX6_alikeTo 5 = .ok (.ifCond .ne 5, 3) := by decide +kernel
theorem dX6_alikeTo_8 : decode cX6_alikeTo 8 = .ok (.iconst (-1), 1) := by decide +kernel
theorem dX6_alikeTo_9 : decode cX6_alikeTo 9 = .ok (.ireturn, 1) := by decide +kernel
theorem dX6_alikeTo_10 : decode cX6_alikeTo 10 = .ok (.iconst 0, 1) := by decide +kernel
theorem dX6_alikeTo_11 : decode cX6_alikeTo 11 = .ok (.istore_n 2, 1) := by decide +kernel
theorem dX6_alikeTo_12 : decode cX6_alikeTo 12 = .ok (.iload_n 2, 1) := by decide +kernel
theorem dX6_alikeTo_13 : decode cX6_alikeTo 13 = .ok (.aload_n 0, 1) := by decide +kernel
theorem dX6_alikeTo_14 : decode cX6_alikeTo 14 = .ok (.getfield 7, 3) := by decide +kernel
theorem dX6_alikeTo_17 : decode cX6_alikeTo 17 = .ok (.bipush 48, 2) := by decide +kernel
theorem dX6_alikeTo_19 : decode cX6_alikeTo 19 = .ok (.iaload, 1) := by decide +kernel
theorem dX6_alikeTo_20 : decode cX6_alikeTo 20 = .ok (.if_icmp .ge 25, 3) := by decide +kernel
theorem dX6_alikeTo_23 : decode cX6_alikeTo 23 = .ok (.iload_n 2, 1) := by decide +kernel
theorem dX6_alikeTo_24 : decode cX6_alikeTo 24 = .ok (.iload_n 1, 1) := by decide +kernel
theorem dX6_alikeTo_25 : decode cX6_alikeTo 25 = .ok (.if_icmp .eq 14, 3) := by decide +kernel
theorem dX6_alikeTo_28 : decode cX6_alikeTo 28 = .ok (.aload_n 0, 1) := by decide +kernel
theorem dX6_alikeTo_29 : decode cX6_alikeTo 29 = .ok (.iload_n 1, 1) := by decide +kernel
theorem dX6_alikeTo_30 : decode cX6_alikeTo 30 = .ok (.iload_n 2, 1) := by decide +kernel
theorem dX6_alikeTo_31 : decode cX6_alikeTo 31 = .ok (.invokevirtual 60, 3) := by decide +kernel
theorem dX6_alikeTo_34 : decode cX6_alikeTo 34 = .ok (.ifCond .eq 5, 3) := by decide +kernel
theorem dX6_alikeTo_37 : decode cX6_alikeTo 37 = .ok (.iload_n 2, 1) := by decide +kernel
theorem dX6_alikeTo_38 : decode cX6_alikeTo 38 = .ok (.ireturn, 1) := by decide +kernel
theorem dX6_alikeTo_39 : decode cX6_alikeTo 39 = .ok (.iinc 2 1, 3) := by decide +kernel
theorem dX6_alikeTo_42 : decode cX6_alikeTo 42 = .ok (.goto (-30), 3) := by decide +kernel
theorem dX6_alikeTo_45 : decode cX6_alikeTo 45 = .ok (.bipush (-3), 2) := by decide +kernel
theorem dX6_alikeTo_47 : decode cX6_alikeTo 47 = .ok (.ireturn, 1) := by decide +kernel
theorem dX6_isBetween_0 : decode cX6_isBetween 0 = .ok (.iload_n 1, 1) := by decide +kernel
theorem dX6_isBetween_1 : decode cX6_isBetween 1 = .ok (.iload_n 2, 1) := by decide +kernel
theorem dX6_isBetween_2 : decode cX6_isBetween 2 = .ok (.if_icmp .ge 12, 3) := by decide +kernel
theorem dX6_isBetween_5 : decode cX6_isBetween 5 = .ok (.iload_n 0, 1) := by decide +kernel
theorem dX6_isBetween_6 : decode cX6_isBetween 6 = .ok (.iload_n 1, 1) := by decide +kernel
theorem dX6_isBetween_7 : decode cX6_isBetween 7 = .ok (.iload_n 2, 1) := by decide +kernel
theorem dX6_isBetween_8 : decode cX6_isBetween 8 = .ok (.invokestatic 38, 3) := by decide +kernel
theorem dX6_isBetween_11 : decode cX6_isBetween 11 = .ok (.goto 9, 3) := by decide +kernel
theorem dX6_isBetween_14 : decode cX6_isBetween 14 = .ok (.iload_n 0, 1) := by decide +kernel
theorem dX6_isBetween_15 : decode cX6_isBetween 15 = .ok (.iload_n 2, 1) := by decide +kernel
theorem dX6_isBetween_16 : decode cX6_isBetween 16 = .ok (.iload_n 1, 1) := by decide +kernel
theorem dX6_isBetween_17 : decode cX6_isBetween 17 = .ok (.invokestatic 38, 3) := by decide +kernel
theorem dX6_isBetween_20 : decode cX6_isBetween 20 = .ok (.ireturn, 1) := by decide +kernel
theorem dX6_lies_0 : decode cX6_lies 0 = .ok (.aload_n 0, 1) := by decide +kernel
theorem dX6_lies_1 : decode cX6_lies 1 = .ok (.getfield 7, 3) := by decide +kernel
theorem dX6_lies_4 : decode cX6_lies 4 = .ok (.iconst 5, 1) := by decide +kernel
theorem dX6_lies_5 : decode cX6_lies 5 = .ok (.iload_n 3, 1) := by decide +kernel
theorem dX6_lies_6 : decode cX6_lies 6 = .ok (.imul, 1) := by decide +kernel
theorem dX6_lies_7 : decode cX6_lies 7 = .ok (.iaload, 1) := by decide +kernel
theorem dX6_lies_8 : decode cX6_lies 8 = .ok (.istore 4, 2) := by decide +kernel
theorem dX6_lies_10 : decode cX6_lies 10 = .ok (.aload_n 0, 1) := by decide +kernel
theorem dX6_lies_11 : decode cX6_lies 11 = .ok (.getfield 7, 3) := by decide +kernel
theorem dX6_lies_14 : decode cX6_lies 14 = .ok (.iconst 5, 1) := by decide +kernel
theorem dX6_lies_15 : decode cX6_lies 15 = .ok (.iload_n 3, 1) := by decide +kernel
theorem dX6_lies_16 : decode cX6_lies 16 = .ok (.imul, 1) := by decide +kernel
theorem dX6_lies_17 : decode cX6_lies 17 = .ok (.iconst 1, 1) := by decide +kernel
theorem dX6_lies_18 : decode cX6_lies 18 = .ok (.iadd, 1) := by decide +kernel
theorem dX6_lies_19 : decode cX6_lies 19 = .ok (.iaload, 1) := by decide +kernel
theorem dX6_lies_20 : decode cX6_lies 20 = .ok (.istore 5, 2) := by decide +kernel
theorem dX6_lies_22 : decode cX6_lies 22 = .ok (.aload_n 0, 1) := by decide +kernel
theorem dX6_lies_23 : decode cX6_lies 23 = .ok (.getfield 7, 3) := by decide +kernel
theorem dX6_lies_26 : decode cX6_lies 26 = .ok (.iconst 5, 1) := by decide +kernel
theorem dX6_lies_27 : decode cX6_lies 27 = .ok (.iload_n 3, 1) := by decide +kernel
theorem dX6_lies_28 : decode cX6_lies 28 = .ok (.imul, 1) := by decide +kernel
theorem dX6_lies_29 : decode cX6_lies 29 = .ok (.iconst 2, 1) := by decide +kernel
theorem dX6_lies_30 : decode cX6_lies 30 = .ok (.iadd, 1) := by decide +kernel
theorem dX6_lies_31 : decode cX6_lies 31 = .ok (.iaload, 1) := by decide +kernel
theorem dX6_lies_32 : decode cX6_lies 32 = .ok (.istore 6, 2) := by decide +kernel
theorem dX6_lies_34 : decode cX6_lies 34 = .ok (.aload_n 0, 1) := by decide +kernel
theorem dX6_lies_35 : decode cX6_lies 35 = .ok (.getfield 7, 3) := by decide +kernel
theorem dX6_lies_38 : decode cX6_lies 38 = .ok (.iconst 5, 1) := by decide +kernel
theorem dX6_lies_39 : decode cX6_lies 39 = .ok (.iload_n 3, 1) := by decide +kernel
theorem dX6_lies_40 : decode cX6_lies 40 = .ok (.imul, 1) := by decide +kernel
theorem dX6_lies_41 : decode cX6_lies 41 = .ok (.iconst 3, 1) := by decide +kernel
theorem dX6_lies_42 : decode cX6_lies 42 = .ok (.iadd, 1) := by decide +kernel
theorem dX6_lies_43 : decode cX6_lies 43 = .ok (.iaload, 1) := by decide +kernel
theorem dX6_lies_44 : decode cX6_lies 44 = .ok (.istore 7, 2) := by decide +kernel
theorem dX6_lies_46 : decode cX6_lies 46 = .ok (.iload 6, 2) := by decide +kernel
theorem dX6_lies_48 : decode cX6_lies 48 = .ok (.iload 4, 2) := by decide +kernel
theorem dX6_lies_50 : decode cX6_lies 50 = .ok (.isub, 1) := by decide +kernel
theorem dX6_lies_51 : decode cX6_lies 51 = .ok (.iload_n 2, 1) := by decide +kernel
theorem dX6_lies_52 : decode cX6_lies 52 = .ok (.iload 5, 2) := by decide +kernel
theorem dX6_lies_54 : decode cX6_lies 54 = .ok (.isub, 1) := by decide +kernel
theorem dX6_lies_55 : decode cX6_lies 55 = .ok (.imul, 1) := by decide +kernel
theorem dX6_lies_56 : decode cX6_lies 56 = .ok (.iload 7, 2) := by decide +kernel
theorem dX6_lies_58 : decode cX6_lies 58 = .ok (.iload 5, 2) := by decide +kernel
theorem dX6_lies_60 : decode cX6_lies 60 = .ok (.isub, 1) := by decide +kernel
theorem dX6_lies_61 : decode cX6_lies 61 = .ok (.iload_n 1, 1) := by decide +kernel
theorem dX6_lies_62 : decode cX6_lies 62 = .ok (.iload 4, 2) := by decide +kernel
theorem dX6_lies_64 : decode cX6_lies 64 = .ok (.isub, 1) := by decide +kernel
theorem dX6_lies_65 : decode cX6_lies 65 = .ok (.imul, 1) := by decide +kernel
theorem dX6_lies_66 : decode cX6_lies 66 = .ok (.if_icmp .ne 29, 3) := by decide +kernel
theorem dX6_lies_69 : decode cX6_lies 69 = .ok (.iload_n 1, 1) := by decide +kernel
theorem dX6_lies_70 : decode cX6_lies 70 = .ok (.iload 4, 2) := by decide +kernel
theorem dX6_lies_72 : decode cX6_lies 72 = .ok (.iload 6, 2) := by decide +kernel
theorem dX6_lies_74 : decode cX6_lies 74 = .ok (.invokestatic 64, 3) := by decide +kernel
theorem dX6_lies_77 : decode cX6_lies 77 = .ok (.ifCond .eq 18, 3) := by decide +kernel
theorem dX6_lies_80 : decode cX6_lies 80 = .ok (.iload_n 2, 1) := by decide +kernel
theorem dX6_lies_81 : decode cX6_lies 81 = .ok (.iload 5, 2) := by decide +kernel
theorem dX6_lies_83 : decode cX6_lies 83 = .ok (.iload 7, 2) := by decide +kernel
theorem dX6_lies_85 : decode cX6_lies 85 = .ok (.invokestatic 64, 3) := by decide +kernel
theorem dX6_lies_88 : decode cX6_lies 88 = .ok (.ifCond .eq 7, 3) := by decide +kernel
theorem dX6_lies_91 : decode cX6_lies 91 = .ok (.iconst 1, 1) := by decide +kernel
theorem dX6_lies_92 : decode cX6_lies 92 = .ok (.goto 4, 3) := by decide +kernel
theorem dX6_lies_95 : decode cX6_lies 95 = .ok (.iconst 0, 1) := by decide +kernel
theorem dX6_lies_96 : decode cX6_lies 96 = .ok (.ireturn, 1) := by decide +kernel
theorem dX6_coveredBy_0 : decode cX6_coveredBy 0 = .ok (.aload_n 0, 1) := by decide +kernel
theorem dX6_coveredBy_1 : decode cX6_coveredBy 1 = .ok (.iload_n 1, 1) := by decide +kernel
theorem dX6_coveredBy_2 : decode cX6_coveredBy 2 = .ok (.invokevirtual 48, 3) := by decide +kernel
theorem dX6_coveredBy_5 : decode cX6_coveredBy 5 = .ok (.ifCond .ne 5, 3) := by decide +kernel
theorem dX6_coveredBy_8 : decode cX6_coveredBy 8 = .ok (.iconst (-1), 1) := by decide +kernel
theorem dX6_coveredBy_9 : decode cX6_coveredBy 9 = .ok (.ireturn, 1) := by decide +kernel
theorem dX6_coveredBy_10 : decode cX6_coveredBy 10 = .ok (.iconst 0, 1) := by decide +kernel
theorem dX6_coveredBy_11 : decode cX6_coveredBy 11 = .ok (.istore_n 2, 1) := by decide +kernel
theorem dX6_coveredBy_12 : decode cX6_coveredBy 12 = .ok (.iload_n 2, 1) := by decide +kernel
theorem dX6_coveredBy_13 : decode cX6_coveredBy 13 = .ok (.aload_n 0, 1) := by decide +kernel
theorem dX6_coveredBy_14 : decode cX6_coveredBy 14 = .ok (.getfield 7, 3) := by decide +kernel
theorem dX6_coveredBy_17 : decode cX6_coveredBy 17 = .ok (.bipush 48, 2) := by decide +kernel
theorem dX6_coveredBy_19 : decode cX6_coveredBy 19 = .ok (.iaload, 1) := by decide +kernel
theorem dX6_coveredBy_20 : decode cX6_coveredBy 20 = .ok (.if_icmp .ge 102, 3) := by decide +kernel
theorem dX6_coveredBy_23 : decode cX6_coveredBy 23 = .ok (.iload_n 2, 1) := by decide +kernel
theorem dX6_coveredBy_24 : decode cX6_coveredBy 24 = .ok (.iload_n 1, 1) := by decide +kernel
theorem dX6_coveredBy_25 : decode cX6_coveredBy 25 = .ok (.if_icmp .eq 29, 3) := by decide +kernel
theorem dX6_coveredBy_28 : decode cX6_coveredBy 28 = .ok (.aload_n 0, 1) := by decide +kernel
theorem dX6_coveredBy_29 : decode cX6_coveredBy 29 = .ok (.iload_n 1, 1) := by decide +kernel
theorem dX6_coveredBy_30 : decode cX6_coveredBy 30 = .ok (.invokevirtual 56, 3) := by decide +kernel
theorem dX6_coveredBy_33 : decode cX6_coveredBy 33 = .ok (.aload_n 0, 1) := by decide +kernel
theorem dX6_coveredBy_34 : decode cX6_coveredBy 34 = .ok (.iload_n 2, 1) := by decide +kernel
theorem dX6_coveredBy_35 : decode cX6_coveredBy 35 = .ok (.invokevirtual 56, 3) := by decide +kernel
theorem dX6_coveredBy_38 : decode cX6_coveredBy 38 = .ok (.if_icmp .ne 16, 3) := by decide +kernel
theorem dX6_coveredBy_41 : decode cX6_coveredBy 41 = .ok (.aload_n 0, 1) := by decide +kernel
theorem dX6_coveredBy_42 : decode cX6_coveredBy 42 = .ok (.iload_n 1, 1) := by decide +kernel
theorem dX6_coveredBy_43 : decode cX6_coveredBy 43 = .ok (.iload_n 2, 1) := by decide +kernel
theorem dX6_coveredBy_44 : decode cX6_coveredBy 44 = .ok (.invokevirtual 60, 3) := by decide +kernel
theorem dX6_coveredBy_47 : decode cX6_coveredBy 47 = .ok (.ifCond .ne 7, 3) := by decide +kernel
theorem dX6_coveredBy_50 : decode cX6_coveredBy 50 = .ok (.iconst 1, 1) := by decide +kernel
theorem dX6_coveredBy_51 : decode cX6_coveredBy 51 = .ok (.goto 4, 3) := by decide +kernel
theorem dX6_coveredBy_54 : decode cX6_coveredBy 54 = .ok (.iconst 0, 1) := by decide +kernel
theorem dX6_coveredBy_55 : decode cX6_coveredBy 55 = .ok (.istore_n 3, 1) := by decide +kernel
theorem dX6_coveredBy_56 : decode cX6_coveredBy 56 = .ok (.iload_n 3, 1) := by decide +kernel
theorem dX6_coveredBy_57 : decode cX6_coveredBy 57 = .ok (.ifCond .eq 59, 3) := by decide +kernel
theorem dX6_coveredBy_60 : decode cX6_coveredBy 60 = .ok (.aload_n 0, 1) := by decide +kernel
theorem dX6_coveredBy_61 : decode cX6_coveredBy 61 = .ok (.aload_n 0, 1) := by decide +kernel
theorem dX6_coveredBy_62 : decode cX6_coveredBy 62 = .ok (.getfield 7, 3) := by decide +kernel
theorem dX6_coveredBy_65 : decode cX6_coveredBy 65 = .ok (.iconst 5, 1) := by decide +kernel
theorem dX6_coveredBy_66 : decode cX6_coveredBy 66 = .ok (.iload_n 1, 1) := by decide +kernel
theorem dX6_coveredBy_67 : decode cX6_coveredBy 67 = .ok (.imul, 1) := by decide +kernel
theorem dX6_coveredBy_68 : decode cX6_coveredBy 68 = .ok (.iaload, 1) := by decide +kernel
theorem dX6_coveredBy_69 : decode cX6_coveredBy 69 = .ok (.aload_n 0, 1) := by decide +kernel
theorem dX6_coveredBy_70 : decode cX6_coveredBy 70 = .ok (.getfield 7, 3) := by decide +kernel
theorem dX6_coveredBy_73 : decode cX6_coveredBy 73 = .ok (.iconst 5, 1) := by decide +kernel
theorem dX6_coveredBy_74 : decode cX6_coveredBy 74 = .ok (.iload_n 1, 1) := by decide +kernel
theorem dX6_coveredBy_75 : decode cX6_coveredBy 75 = .ok (.imul, 1) := by decide +kernel
theorem dX6_coveredBy_76 : decode cX6_coveredBy 76 = .ok (.iconst 1, 1) := by decide +kernel
theorem dX6_coveredBy_77 : decode cX6_coveredBy 77 = .ok (.iadd, 1) := by decide +kernel
theorem dX6_coveredBy_78 : decode cX6_coveredBy 78 = .ok (.iaload, 1) := by decide +kernel
theorem dX6_coveredBy_79 : decode cX6_coveredBy 79 = .ok (.iload_n 2, 1) := by decide +kernel
theorem dX6_coveredBy_80 : decode cX6_coveredBy 80 = .ok (.invokevirtual 67, 3) := by decide +kernel
theorem dX6_coveredBy_83 : decode cX6_coveredBy 83 = .ok (.ifCond .eq 33, 3) := by decide +kernel
theorem dX6_coveredBy_86 : decode cX6_coveredBy 86 = .ok (.aload_n 0, 1) := by decide +kernel
theorem dX6_coveredBy_87 : decode cX6_coveredBy 87 = .ok (.aload_n 0, 1) := by decide +kernel
theorem dX6_coveredBy_88 : decode cX6_coveredBy 88 = .ok (.getfield 7, 3) := by decide +kernel
theorem dX6_coveredBy_91 : decode cX6_coveredBy 91 = .ok (.iconst 5, 1) := by decide +kernel
theorem dX6_coveredBy_92 : decode cX6_coveredBy 92 = .ok (.iload_n 1, 1) := by decide +kernel
theorem dX6_coveredBy_93 : decode cX6_coveredBy 93 = .ok (.imul, 1) := by decide +kernel
theorem dX6_coveredBy_94 : decode cX6_coveredBy 94 = .ok (.iconst 2, 1) := by decide +kernel
theorem dX6_coveredBy_95 : decode cX6_coveredBy 95 = .ok (.iadd, 1) := by decide +kernel
theorem dX6_coveredBy_96 : decode cX6_coveredBy 96 = .ok (.iaload, 1) := by decide +kernel
theorem dX6_coveredBy_97 : decode cX6_coveredBy 97 = .ok (.aload_n 0, 1) := by decide +kernel
theorem dX6_coveredBy_98 : decode cX6_coveredBy 98 = .ok (.getfield 7, 3) := by decide +kernel
theorem dX6_coveredBy_101 : decode cX6_coveredBy 101 = .ok (.iconst 5, 1) := by decide +kernel
theorem dX6_coveredBy_102 : decode cX6_coveredBy 102 = .ok (.iload_n 1, 1) := by decide +kernel
theorem dX6_coveredBy_103 : decode cX6_coveredBy 103 = .ok (.imul, 1) := by decide +kernel
theorem dX6_coveredBy_104 : decode cX6_coveredBy 104 = .ok (.iconst 3, 1) := by decide +kernel
theorem dX6_coveredBy_105 : decode cX6_coveredBy 105 = .ok (.iadd, 1) := by decide +kernel
theorem dX6_coveredBy_106 : decode cX6_coveredBy 106 = .ok (.iaload, 1) := by decide +kernel
theorem dX6_coveredBy_107 : decode cX6_coveredBy 107 = .ok (.iload_n 2, 1) := by decide +kernel
theorem dX6_coveredBy_108 : decode cX6_coveredBy 108 = .ok (.invokevirtual 67, 3) := by decide +kernel
theorem dX6_coveredBy_111 : decode cX6_coveredBy 111 = .ok (.ifCond .eq 5, 3) := by decide +kernel
theorem dX6_coveredBy_114 : decode cX6_coveredBy 114 = .ok (.iload_n 2, 1) := by decide +kernel
theorem dX6_coveredBy_115 : decode cX6_coveredBy 115 = .ok (.ireturn, 1) := by decide +kernel
theorem dX6_coveredBy_116 : decode cX6_coveredBy 116 = .ok (.iinc 2 1, 3) := by decide +kernel
theorem dX6_coveredBy_119 : decode cX6_coveredBy 119 = .ok (.goto (-107), 3) := by decide +kernel
theorem dX6_coveredBy_122 : decode cX6_coveredBy 122 = .ok (.bipush (-3), 2) := by decide +kernel
theorem dX6_coveredBy_124 : decode cX6_coveredBy 124 = .ok (.ireturn, 1) := by decide +kernel
theorem dX6_removeDuplicates_0 : decode cX6_removeDuplicates 0 = .ok (.aload_n 0, 1) := by decide +kernel
theorem dX6_removeDuplicates_1 : decode cX6_removeDuplicates 1 = .ok (.invokevirtual 45, 3) := by decide +kernel
theorem dX6_removeDuplicates_4 : decode cX6_removeDuplicates 4 = .ok (.iconst 0, 1) := by decide +kernel
theorem dX6_removeDuplicates_5 : decode cX6_removeDuplicates 5 = .ok (.istore_n 1, 1) := by decide +kernel
theorem dX6_removeDuplicates_6 : decode cX6_removeDuplicates 6 = .ok (.aload_n 0, 1) := by decide +kernel
theorem dX6_removeDuplicates_7 : decode cX6_removeDuplicates 7 = .ok (.getfield 7, 3) := by decide +kernel
theorem dX6_removeDuplicates_10 : decode cX6_removeDuplicates 10 = .ok (.bipush 48, 2) := by decide +kernel
theorem dX6_removeDuplicates_12 : decode cX6_removeDuplicates 12 = .ok (.iaload, 1) := by decide +kernel
theorem dX6_removeDuplicates_13 : decode cX6_removeDuplicates 13 = .ok (.iconst 1, 1) := by decide +kernel
theorem dX6_removeDuplicates_14 : decode cX6_removeDuplicates 14 = .ok (.isub, 1) := by decide +kernel
theorem dX6_removeDuplicates_15 : decode cX6_removeDuplicates 15 = .ok (.istore_n 2, 1) := by decide +kernel
theorem dX6_removeDuplicates_16 : decode cX6_removeDuplicates 16 = .ok (.iload_n 2, 1) := by decide +kernel
theorem dX6_removeDuplicates_17 : decode cX6_removeDuplicates 17 = .ok (.ifCond .le 58, 3) := by decide +kernel
theorem dX6_removeDuplicates_20 : decode cX6_removeDuplicates 20 = .ok (.iconst 0, 1) := by decide +kernel
theorem dX6_removeDuplicates_21 : decode cX6_removeDuplicates 21 = .ok (.istore_n 3, 1) := by decide +kernel
theorem dX6_removeDuplicates_22 : decode cX6_removeDuplicates 22 = .ok (.iconst 0, 1) := by decide +kernel
theorem dX6_removeDuplicates_23 : decode cX6_removeDuplicates 23 = .ok (.istore 4, 2) := by decide +kernel
theorem dX6_removeDuplicates_25 : decode cX6_removeDuplicates 25 = .ok (.iload 4, 2) := by decide +kernel
theorem dX6_removeDuplicates_27 : decode cX6_removeDuplicates 27 = .ok (.iload_n 2, 1) := by decide +kernel
theorem dX6_removeDuplicates_28 : decode cX6_removeDuplicates 28 = .ok (.if_icmp .ge 29, 3) := by decide +kernel
theorem dX6_removeDuplicates_31 : decode cX6_removeDuplicates 31 = .ok (.iload_n 3, 1) := by decide +kernel
theorem dX6_removeDuplicates_32 : decode cX6_removeDuplicates 32 = .ok (.ifCond .ne 13, 3) := by decide +kernel
theorem dX6_removeDuplicates_35 : decode cX6_removeDuplicates 35 = .ok (.aload_n 0, 1) := by decide +kernel
theorem dX6_removeDuplicates_36 : decode cX6_removeDuplicates 36 = .ok (.iload_n 2, 1) := by decide +kernel
theorem dX6_removeDuplicates_37 : decode cX6_removeDuplicates 37 = .ok (.iload 4, 2) := by decide +kernel
theorem dX6_removeDuplicates_39 : decode cX6_removeDuplicates 39 = .ok (.invokevirtual 60, 3) := by decide +kernel
theorem dX6_removeDuplicates_42 : decode cX6_removeDuplicates 42 = .ok (.ifCond .eq 7, 3) := by decide +kernel
theorem dX6_removeDuplicates_45 : decode cX6_removeDuplicates 45 = .ok (.iconst 1, 1) := by decide +kernel
theorem dX6_removeDuplicates_46 : decode cX6_removeDuplicates 46 = .ok (.goto 4, 3) := by decide +kernel
theorem dX6_removeDuplicates_49 : decode cX6_removeDuplicates 49 = .ok (.iconst 0, 1) := by decide +kernel
theorem dX6_removeDuplicates_50 : decode cX6_removeDuplicates 50 = .ok (.istore_n 3, 1) := by decide +kernel
theorem dX6_removeDuplicates_51 : decode cX6_removeDuplicates 51 = .ok (.iinc 4 1, 3) := by decide +kernel
theorem dX6_removeDuplicates_54 : decode cX6_removeDuplicates 54 = .ok (.goto (-29), 3) := by decide +kernel
theorem dX6_removeDuplicates_57 : decode cX6_removeDuplicates 57 = .ok (.iload_n 3, 1) := by decide +kernel
theorem dX6_removeDuplicates_58 : decode cX6_removeDuplicates 58 = .ok (.ifCond .eq 11, 3) := by decide +kernel
theorem dX6_removeDuplicates_61 : decode cX6_removeDuplicates 61 = .ok (.aload_n 0, 1) := by decide +kernel
theorem dX6_removeDuplicates_62 : decode cX6_removeDuplicates 62 = .ok (.iload_n 2, 1) := by decide +kernel
theorem dX6_removeDuplicates_63 : decode cX6_removeDuplicates 63 = .ok (.invokevirtual 52, 3) := by decide +kernel
theorem dX6_removeDuplicates_66 : decode cX6_removeDuplicates 66 = .ok (.iinc 1 1, 3) := by decide +kernel
theorem dX6_removeDuplicates_69 : decode cX6_removeDuplicates 69 = .ok (.iinc 2 (-1), 3) := by decide +kernel
theorem dX6_removeDuplicates_72 : decode cX6_removeDuplicates 72 = .ok (.goto (-56), 3) := by decide +kernel
theorem dX6_removeDuplicates_75 : decode cX6_removeDuplicates 75 = .ok (.iload_n 1, 1) := by decide +kernel
theorem dX6_removeDuplicates_76 : decode cX6_removeDuplicates 76 = .ok (.ireturn, 1) := by decide +kernel
theorem dX6_isSamePoint_0 : decode cX6_isSamePoint 0 = .ok (.iconst 5, 1) := by decide +kernel
theorem dX6_isSamePoint_1 : decode cX6_isSamePoint 1 = .ok (.iload_n 1, 1) := by decide +kernel
theorem dX6_isSamePoint_2 : decode cX6_isSamePoint 2 = .ok (.iconst 2, 1) := by decide +kernel
theorem dX6_isSamePoint_3 : decode cX6_isSamePoint 3 = .ok (.idiv, 1) := by decide +kernel
theorem dX6_isSamePoint_4 : decode cX6_isSamePoint 4 = .ok (.imul, 1) := by decide +kernel
theorem dX6_isSamePoint_5 : decode cX6_isSamePoint 5 = .ok (.iconst 2, 1) := by decide +kernel
theorem dX6_isSamePoint_6 : decode cX6_isSamePoint 6 = .ok (.iload_n 1, 1) := by decide +kernel
theorem dX6_isSamePoint_7 : decode cX6_isSamePoint 7 = .ok (.iconst 2, 1) := by decide +kernel
theorem dX6_isSamePoint_8 : decode cX6_isSamePoint 8 = .ok (.irem, 1) := by decide +kernel
theorem dX6_isSamePoint_9 : decode cX6_isSamePoint 9 = .ok (.imul, 1) := by decide +kernel
theorem dX6_isSamePoint_10 : decode cX6_isSamePoint 10 = .ok (.iadd, 1) := by decide +kernel
theorem dX6_isSamePoint_11 : decode cX6_isSamePoint 11 = .ok (.istore_n 3, 1) := by decide +kernel
theorem dX6_isSamePoint_12 : decode cX6_isSamePoint 12 = .ok (.iconst 5, 1) := by decide +kernel
theorem dX6_isSamePoint_13 : decode cX6_isSamePoint 13 = .ok (.iload_n 2, 1) := by decide +kernel
theorem dX6_isSamePoint_14 : decode cX6_isSamePoint 14 = .ok (.iconst 2, 1) := by decide +kernel
theorem dX6_isSamePoint_15 : decode cX6_isSamePoint 15 = .ok (.idiv, 1) := by decide +kernel
theorem dX6_isSamePoint_16 : decode cX6_isSamePoint 16 = .ok (.imul, 1) := by decide +kernel
theorem dX6_isSamePoint_17 : decode cX6_isSamePoint 17 = .ok (.iconst 2, 1) := by decide +kernel
theorem dX6_isSamePoint_18 : decode cX6_isSamePoint 18 = .ok (.iload_n 2, 1) := by decide +kernel
theorem dX6_isSamePoint_19 : decode cX6_isSamePoint 19 = .ok (.iconst 2, 1) := by decide +kernel
theorem dX6_isSamePoint_20 : decode cX6_isSamePoint 20 = .ok (.irem, 1) := by decide +kernel
theorem dX6_isSamePoint_21 : decode cX6_isSamePoint 21 = .ok (.imul, 1) := by decide +kernel
theorem dX6_isSamePoint_22 : decode cX6_isSamePoint 22 = .ok (.iadd, 1) := by decide +kernel
theorem dX6_isSamePoint_23 : decode cX6_isSamePoint 23 = .ok (.istore 4, 2) := by decide +kernel
theorem dX6_isSamePoint_25 : decode cX6_isSamePoint 25 = .ok (.aload_n 0, 1) := by decide +kernel
theorem dX6_isSamePoint_26 : decode cX6_isSamePoint 26 = .ok (.getfield 7, 3) := by decide +kernel
theorem dX6_isSamePoint_29 : decode cX6_isSamePoint 29 = .ok (.iload_n 3, 1) := by decide +kernel
theorem dX6_isSamePoint_30 : decode cX6_isSamePoint 30 = .ok (.iaload, 1) := by decide +kernel
theorem dX6_isSamePoint_31 : decode cX6_isSamePoint 31 = .ok (.aload_n 0, 1) := by decide +kernel
theorem dX6_isSamePoint_32 : decode cX6_isSamePoint 32 = .ok (.getfield 7, 3) := by decide +kernel
theorem dX6_isSamePoint_35 : decode cX6_isSamePoint 35 = .ok (.iload 4, 2) := by decide +kernel
theorem dX6_isSamePoint_37 : decode cX6_isSamePoint 37 = .ok (.iaload, 1) := by decide +kernel
theorem dX6_isSamePoint_38 : decode cX6_isSamePoint 38 = .ok (.if_icmp .ne 27, 3) := by decide +kernel
theorem dX6_isSamePoint_41 : decode cX6_isSamePoint 41 = .ok (.aload_n 0, 1) := by decide +kernel
theorem dX6_isSamePoint_42 : decode cX6_isSamePoint 42 = .ok (.getfield 7, 3) := by decide +kernel
theorem dX6_isSamePoint_45 : decode cX6_isSamePoint 45 = .ok (.iload_n 3, 1) := by decide +kernel
theorem dX6_isSamePoint_46 : decode cX6_isSamePoint 46 = .ok (.iconst 1, 1) := by decide +kernel
theorem dX6_isSamePoint_47 : decode cX6_isSamePoint 47 = .ok (.iadd, 1) := by decide +kernel
theorem dX6_isSamePoint_48 : decode cX6_isSamePoint 48 = .ok (.iaload, 1) := by decide +kernel
theorem dX6_isSamePoint_49 : decode cX6_isSamePoint 49 = .ok (.aload_n 0, 1) := by decide +kernel
theorem dX6_isSamePoint_50 : decode cX6_isSamePoint 50 = .ok (.getfield 7, 3) := by decide +kernel
theorem dX6_isSamePoint_53 : decode cX6_isSamePoint 53 = .ok (.iload 4, 2) := by decide +kernel
theorem dX6_isSamePoint_55 : decode cX6_isSamePoint 55 = .ok (.iconst 1, 1) := by decide +kernel
theorem dX6_isSamePoint_56 : decode cX6_isSamePoint 56 = .ok (.iadd, 1) := by decide +kernel
theorem dX6_isSamePoint_57 : decode cX6_isSamePoint 57 = .ok (.iaload, 1) := by decide +kernel
theorem dX6_isSamePoint_58 : decode cX6_isSamePoint 58 = .ok (.if_icmp .ne 7, 3) := by decide +kernel
theorem dX6_isSamePoint_61 : decode cX6_isSamePoint 61 = .ok (.iconst 1, 1) := by decide +kernel
theorem dX6_isSamePoint_62 : decode cX6_isSamePoint 62 = .ok (.goto 4, 3) := by decide +kernel
theorem dX6_isSamePoint_65 : decode cX6_isSamePoint 65 = .ok (.iconst 0, 1) := by decide +kernel
theorem dX6_isSamePoint_66 : decode cX6_isSamePoint 66 = .ok (.ireturn, 1) := by decide +kernel
theorem dX6_isOfPen_0 : decode cX6_isOfPen 0 = .ok (.aload_n 0, 1) := by decide +kernel
theorem dX6_isOfPen_1 : decode cX6_isOfPen 1 = .ok (.iload_n 1, 1) := by decide +kernel
theorem dX6_isOfPen_2 : decode cX6_isOfPen 2 = .ok (.iconst 2, 1) := by decide +kernel
theorem dX6_isOfPen_3 : decode cX6_isOfPen 3 = .ok (.idiv, 1) := by decide +kernel
theorem dX6_isOfPen_4 : decode cX6_isOfPen 4 = .ok (.invokevirtual 56, 3) := by decide +kernel
theorem dX6_isOfPen_7 : decode cX6_isOfPen 7 = .ok (.iload_n 2, 1) := by decide +kernel
theorem dX6_isOfPen_8 : decode cX6_isOfPen 8 = .ok (.if_icmp .ne 7, 3) := by decide +kernel
theorem dX6_isOfPen_11 : decode cX6_isOfPen 11 = .ok (.iconst 1, 1) := by decide +kernel
theorem dX6_isOfPen_12 : decode cX6_isOfPen 12 = .ok (.goto 4, 3) := by decide +kernel
theorem dX6_isOfPen_15 : decode cX6_isOfPen 15 = .ok (.iconst 0, 1) := by decide +kernel
theorem dX6_isOfPen_16 : decode cX6_isOfPen 16 = .ok (.ireturn, 1) := by decide +kernel
theorem dX6_degree_0 : decode cX6_degree 0 = .ok (.iconst 0, 1) := by decide +kernel
theorem dX6_degree_1 : decode cX6_degree 1 = .ok (.istore_n 3, 1) := by decide +kernel
theorem dX6_degree_2 : decode cX6_degree 2 = .ok (.iconst 0, 1) := by decide +kernel
theorem dX6_degree_3 : decode cX6_degree 3 = .ok (.istore 4, 2) := by decide +kernel
theorem dX6_degree_5 : decode cX6_degree 5 = .ok (.iload 4, 2) := by decide +kernel
theorem dX6_degree_7 : decode cX6_degree 7 = .ok (.iconst 2, 1) := by decide +kernel
theorem dX6_degree_8 : decode cX6_degree 8 = .ok (.aload_n 0, 1) := by decide +kernel
theorem dX6_degree_9 : decode cX6_degree 9 = .ok (.getfield 7, 3) := by decide +kernel
theorem dX6_degree_12 : decode cX6_degree 12 = .ok (.bipush 48, 2) := by decide +kernel
theorem dX6_degree_14 : decode cX6_degree 14 = .ok (.iaload, 1) := by decide +kernel
theorem dX6_degree_15 : decode cX6_degree 15 = .ok (.imul, 1) := by decide +kernel
theorem dX6_degree_16 : decode cX6_degree 16 = .ok (.if_icmp .ge 62, 3) := by decide +kernel
theorem dX6_degree_19 : decode cX6_degree 19 = .ok (.aload_n 0, 1) := by decide +kernel
theorem dX6_degree_20 : decode cX6_degree 20 = .ok (.iload 4, 2) := by decide +kernel
theorem dX6_degree_22 : decode cX6_degree 22 = .ok (.iload_n 2, 1) := by decide +kernel
theorem dX6_degree_23 : decode cX6_degree 23 = .ok (.invokevirtual 70, 3) := by decide +kernel
theorem dX6_degree_26 : decode cX6_degree 26 = .ok (.ifCond .eq 17, 3) := by decide +kernel
theorem dX6_degree_29 : decode cX6_degree 29 = .ok (.aload_n 0, 1) := by decide +kernel
theorem dX6_degree_30 : decode cX6_degree 30 = .ok (.iload_n 1, 1) := by decide +kernel
theorem dX6_degree_31 : decode cX6_degree 31 = .ok (.iload 4, 2) := by decide +kernel
theorem dX6_degree_33 : decode cX6_degree 33 = .ok (.invokevirtual 73, 3) := by decide +kernel
theorem dX6_degree_36 : decode cX6_degree 36 = .ok (.ifCond .eq 7, 3) := by decide +kernel
theorem dX6_degree_39 : decode cX6_degree 39 = .ok (.iconst 1, 1) := by decide +kernel
theorem dX6_degree_40 : decode cX6_degree 40 = .ok (.goto 4, 3) := by decide +kernel
theorem dX6_degree_43 : decode cX6_degree 43 = .ok (.iconst 0, 1) := by decide +kernel
theorem dX6_degree_44 : decode cX6_degree 44 = .ok (.istore 5, 2) := by decide +kernel
theorem dX6_degree_46 : decode cX6_degree 46 = .ok (.iload 5, 2) := by decide +kernel
theorem dX6_degree_48 : decode cX6_degree 48 = .ok (.ifCond .eq 11, 3) := by decide +kernel
theorem dX6_degree_51 : decode cX6_degree 51 = .ok (.iload 4, 2) := by decide +kernel
theorem dX6_degree_53 : decode cX6_degree 53 = .ok (.iload_n 1, 1) := by decide +kernel
theorem dX6_degree_54 : decode cX6_degree 54 = .ok (.if_icmp .ge 5, 3) := by decide +kernel
theorem dX6_degree_57 : decode cX6_degree 57 = .ok (.iconst 0, 1) := by decide +kernel
theorem dX6_degree_58 : decode cX6_degree 58 = .ok (.ireturn, 1) := by decide +kernel
theorem dX6_degree_59 : decode cX6_degree 59 = .ok (.iload_n 3, 1) := by decide +kernel
theorem dX6_degree_60 : decode cX6_degree 60 = .ok (.iload 5, 2) := by decide +kernel
theorem dX6_degree_62 : decode cX6_degree 62 = .ok (.ifCond .eq 7, 3) := by decide +kernel
theorem dX6_degree_65 : decode cX6_degree 65 = .ok (.iconst 1, 1) := by decide +kernel
theorem dX6_degree_66 : decode cX6_degree 66 = .ok (.goto 4, 3) := by decide +kernel
theorem dX6_degree_69 : decode cX6_degree 69 = .ok (.iconst 0, 1) := by decide +kernel
theorem dX6_degree_70 : decode cX6_degree 70 = .ok (.iadd, 1) := by decide +kernel
theorem dX6_degree_71 : decode cX6_degree 71 = .ok (.istore_n 3, 1) := by decide +kernel
theorem dX6_degree_72 : decode cX6_degree 72 = .ok (.iinc 4 1, 3) := by decide +kernel
theorem dX6_degree_75 : decode cX6_degree 75 = .ok (.goto (-70), 3) := by decide +kernel
theorem dX6_degree_78 : decode cX6_degree 78 = .ok (.iload_n 3, 1) := by decide +kernel
theorem dX6_degree_79 : decode cX6_degree 79 = .ok (.ireturn, 1) := by decide +kernel
theorem dX6_joins_0 : decode cX6_joins 0 = .ok (.iconst 2, 1) := by decide +kernel
theorem dX6_joins_1 : decode cX6_joins 1 = .ok (.aload_n 0, 1) := by decide +kernel
theorem dX6_joins_2 : decode cX6_joins 2 = .ok (.getfield 7, 3) := by decide +kernel
theorem dX6_joins_5 : decode cX6_joins 5 = .ok (.bipush 48, 2) := by decide +kernel
theorem dX6_joins_7 : decode cX6_joins 7 = .ok (.iaload, 1) := by decide +kernel
theorem dX6_joins_8 : decode cX6_joins 8 = .ok (.imul, 1) := by decide +kernel
theorem dX6_joins_9 : decode cX6_joins 9 = .ok (.istore_n 2, 1) := by decide +kernel
theorem dX6_joins_10 : decode cX6_joins 10 = .ok (.iconst 0, 1) := by decide +kernel
theorem dX6_joins_11 : decode cX6_joins 11 = .ok (.istore_n 3, 1) := by decide +kernel
theorem dX6_joins_12 : decode cX6_joins 12 = .ok (.iload_n 3, 1) := by decide +kernel
theorem dX6_joins_13 : decode cX6_joins 13 = .ok (.iload_n 2, 1) := by decide +kernel
theorem dX6_joins_14 : decode cX6_joins 14 = .ok (.if_icmp .ge 16, 3) := by decide +kernel
theorem dX6_joins_17 : decode cX6_joins 17 = .ok (.aload_n 0, 1) := by decide +kernel
theorem dX6_joins_18 : decode cX6_joins 18 = .ok (.getfield 32, 3) := by decide +kernel
theorem dX6_joins_21 : decode cX6_joins 21 = .ok (.iload_n 3, 1) := by decide +kernel
theorem dX6_joins_22 : decode cX6_joins 22 = .ok (.iload_n 3, 1) := by decide +kernel
theorem dX6_joins_23 : decode cX6_joins 23 = .ok (.iastore, 1) := by decide +kernel
theorem dX6_joins_24 : decode cX6_joins 24 = .ok (.iinc 3 1, 3) := by decide +kernel
theorem dX6_joins_27 : decode cX6_joins 27 = .ok (.goto (-15), 3) := by decide +kernel
theorem dX6_joins_30 : decode cX6_joins 30 = .ok (.iconst 0, 1) := by decide +kernel
theorem dX6_joins_31 : decode cX6_joins 31 = .ok (.istore_n 3, 1) := by decide +kernel
theorem dX6_joins_32 : decode cX6_joins 32 = .ok (.iload_n 3, 1) := by decide +kernel
theorem dX6_joins_33 : decode cX6_joins 33 = .ok (.iload_n 2, 1) := by decide +kernel
theorem dX6_joins_34 : decode cX6_joins 34 = .ok (.if_icmp .ge 134, 3) := by decide +kernel
theorem dX6_joins_37 : decode cX6_joins 37 = .ok (.iconst 0, 1) := by decide +kernel
theorem dX6_joins_38 : decode cX6_joins 38 = .ok (.istore 4, 2) := by decide +kernel
theorem dX6_joins_40 : decode cX6_joins 40 = .ok (.iload 4, 2) := by decide +kernel
theorem dX6_joins_42 : decode cX6_joins 42 = .ok (.iload_n 2, 1) := by decide +kernel
theorem dX6_joins_43 : decode cX6_joins 43 = .ok (.if_icmp .ge 119, 3) := by decide +kernel
theorem dX6_joins_46 : decode cX6_joins 46 = .ok (.iconst 0, 1) := by decide +kernel
theorem dX6_joins_47 : decode cX6_joins 47 = .ok (.istore 5, 2) := by decide +kernel
theorem dX6_joins_49 : decode cX6_joins 49 = .ok (.iload 5, 2) := by decide +kernel
theorem dX6_joins_51 : decode cX6_joins 51 = .ok (.iload_n 2, 1) := by decide +kernel
theorem dX6_joins_52 : decode cX6_joins 52 = .ok (.if_icmp .ge 104, 3) := by decide +kernel
theorem dX6_joins_55 : decode cX6_joins 55 = .ok (.aload_n 0, 1) := by decide +kernel
theorem dX6_joins_56 : decode cX6_joins 56 = .ok (.iload 4, 2) := by decide +kernel
theorem dX6_joins_58 : decode cX6_joins 58 = .ok (.iload_n 1, 1) := by decide +kernel
theorem dX6_joins_59 : decode cX6_joins 59 = .ok (.invokevirtual 70, 3) := by decide +kernel
theorem dX6_joins_62 : decode cX6_joins 62 = .ok (.ifCond .eq 39, 3) := by decide +kernel
theorem dX6_joins_65 : decode cX6_joins 65 = .ok (.aload_n 0, 1) := by decide +kernel
theorem dX6_joins_66 : decode cX6_joins 66 = .ok (.iload 5, 2) := by decide +kernel
theorem dX6_joins_68 : decode cX6_joins 68 = .ok (.iload_n 1, 1) := by decide +kernel
theorem dX6_joins_69 : decode cX6_joins 69 = .ok (.invokevirtual 70, 3) := by decide +kernel
theorem dX6_joins_72 : decode cX6_joins 72 = .ok (.ifCond .eq 29, 3) := by decide +kernel
theorem dX6_joins_75 : decode cX6_joins 75 = .ok (.iload 4, 2) := by decide +kernel
theorem dX6_joins_77 : decode cX6_joins 77 = .ok (.iconst 2, 1) := by decide +kernel
theorem dX6_joins_78 : decode cX6_joins 78 = .ok (.idiv, 1) := by decide +kernel
theorem dX6_joins_79 : decode cX6_joins 79 = .ok (.iload 5, 2) := by decide +kernel
theorem dX6_joins_81 : decode cX6_joins 81 = .ok (.iconst 2, 1) := by decide +kernel
theorem dX6_joins_82 : decode cX6_joins 82 = .ok (.idiv, 1) := by decide +kernel
theorem dX6_joins_83 : decode cX6_joins 83 = .ok (.if_icmp .eq 14, 3) := by decide +kernel
theorem dX6_joins_86 : decode cX6_joins 86 = .ok (.aload_n 0, 1) := by decide +kernel
theorem dX6_joins_87 : decode cX6_joins 87 = .ok (.iload 4, 2) := by decide +kernel
theorem dX6_joins_89 : decode cX6_joins 89 = .ok (.iload 5, 2) := by decide +kernel
theorem dX6_joins_91 : decode cX6_joins 91 = .ok (.invokevirtual 73, 3) := by decide +kernel
theorem dX6_joins_94 : decode cX6_joins 94 = .ok (.ifCond .eq 7, 3) := by decide +kernel
theorem dX6_joins_97 : decode cX6_joins 97 = .ok (.iconst 1, 1) := by decide +kernel
theorem dX6_joins_98 : decode cX6_joins 98 = .ok (.goto 4, 3) := by decide +kernel
theorem dX6_joins_101 : decode cX6_joins 101 = .ok (.iconst 0, 1) := by decide +kernel
theorem dX6_joins_102 : decode cX6_joins 102 = .ok (.istore 6, 2) := by decide +kernel
theorem dX6_joins_104 : decode cX6_joins 104 = .ok (.aload_n 0, 1) := by decide +kernel
theorem dX6_joins_105 : decode cX6_joins 105 = .ok (.getfield 32, 3) := by decide +kernel
theorem dX6_joins_108 : decode cX6_joins 108 = .ok (.iload 4, 2) := by decide +kernel
theorem dX6_joins_110 : decode cX6_joins 110 = .ok (.iload 6, 2) := by decide +kernel
theorem dX6_joins_112 : decode cX6_joins 112 = .ok (.ifCond .eq 30, 3) := by decide +kernel
theorem dX6_joins_115 : decode cX6_joins 115 = .ok (.aload_n 0, 1) := by decide +kernel
theorem dX6_joins_116 : decode cX6_joins 116 = .ok (.getfield 32, 3) := by decide +kernel
theorem dX6_joins_119 : decode cX6_joins 119 = .ok (.iload 5, 2) := by decide +kernel
theorem dX6_joins_121 : decode cX6_joins 121 = .ok (.iaload, 1) := by decide +kernel
theorem dX6_joins_122 : decode cX6_joins 122 = .ok (.aload_n 0, 1) := by decide +kernel
theorem dX6_joins_123 : decode cX6_joins 123 = .ok (.getfield 32, 3) := by decide +kernel
theorem dX6_joins_126 : decode cX6_joins 126 = .ok (.iload 4, 2) := by decide +kernel
theorem dX6_joins_128 : decode cX6_joins 128 = .ok (.iaload, 1) := by decide +kernel
theorem dX6_joins_129 : decode cX6_joins 129 = .ok (.if_icmp .ge 13, 3) := by decide +kernel
theorem dX6_joins_132 : decode cX6_joins 132 = .ok (.aload_n 0, 1) := by decide +kernel
theorem dX6_joins_133 : decode cX6_joins 133 = .ok (.getfield 32, 3) := by decide +kernel
theorem dX6_joins_136 : decode cX6_joins 136 = .ok (.iload 5, 2) := by decide +kernel
theorem dX6_joins_138 : decode cX6_joins 138 = .ok (.iaload, 1) := by decide +kernel
theorem dX6_joins_139 : decode cX6_joins 139 = .ok (.goto 10, 3) := by decide +kernel
theorem dX6_joins_142 : decode cX6_joins 142 = .ok (.aload_n 0, 1) := by decide +kernel
theorem dX6_joins_143 : decode cX6_joins 143 = .ok (.getfield 32, 3) := by decide +kernel
theorem dX6_joins_146 : decode cX6_joins 146 = .ok (.iload 4, 2) := by decide +kernel
theorem dX6_joins_148 : decode cX6_joins 148 = .ok (.iaload, 1) := by decide +kernel
theorem dX6_joins_149 : decode cX6_joins 149 = .ok (.iastore, 1) := by decide +kernel
theorem dX6_joins_150 : decode cX6_joins 150 = .ok (.iinc 5 1, 3) := by decide +kernel
theorem dX6_joins_153 : decode cX6_joins 153 = .ok (.goto (-104), 3) := by decide +kernel
theorem dX6_joins_156 : decode cX6_joins 156 = .ok (.iinc 4 1, 3) := by decide +kernel
theorem dX6_joins_159 : decode cX6_joins 159 = .ok (.goto (-119), 3) := by decide +kernel
theorem dX6_joins_162 : decode cX6_joins 162 = .ok (.iinc 3 1, 3) := by decide +kernel
theorem dX6_joins_165 : decode cX6_joins 165 = .ok (.goto (-133), 3) := by decide +kernel
theorem dX6_joins_168 : decode cX6_joins 168 = .ok (.return_, 1) := by decide +kernel
theorem dX6_leastRuns_0 : decode cX6_leastRuns 0 = .ok (.iload_n 1, 1) := by decide +kernel
theorem dX6_leastRuns_1 : decode cX6_leastRuns 1 = .ok (.iconst 0, 1) := by decide +kernel
theorem dX6_leastRuns_2 : decode cX6_leastRuns 2 = .ok (.iconst 3, 1) := by decide +kernel
theorem dX6_leastRuns_3 : decode cX6_leastRuns 3 = .ok (.invokestatic 38, 3) := by decide +kernel
theorem dX6_leastRuns_6 : decode cX6_leastRuns 6 = .ok (.ifCond .ne 5, 3) := by decide +kernel
theorem dX6_leastRuns_9 : decode cX6_leastRuns 9 = .ok (.iconst (-1), 1) := by decide +kernel
theorem dX6_leastRuns_10 : decode cX6_leastRuns 10 = .ok (.ireturn, 1) := by decide +kernel
theorem dX6_leastRuns_11 : decode cX6_leastRuns 11 = .ok (.aload_n 0, 1) := by decide +kernel
theorem dX6_leastRuns_12 : decode cX6_leastRuns 12 = .ok (.iload_n 1, 1) := by decide +kernel
theorem dX6_leastRuns_13 : decode cX6_leastRuns 13 = .ok (.invokevirtual 76, 3) := by decide +kernel
theorem dX6_leastRuns_16 : decode cX6_leastRuns 16 = .ok (.iconst 0, 1) := by decide +kernel
theorem dX6_leastRuns_17 : decode cX6_leastRuns 17 = .ok (.istore_n 2, 1) := by decide +kernel
theorem dX6_leastRuns_18 : decode cX6_leastRuns 18 = .ok (.iconst 0, 1) := by decide +kernel
theorem dX6_leastRuns_19 : decode cX6_leastRuns 19 = .ok (.istore_n 3, 1) := by decide +kernel
theorem dX6_leastRuns_20 : decode cX6_leastRuns 20 = .ok (.iload_n 3, 1) := by decide +kernel
theorem dX6_leastRuns_21 : decode cX6_leastRuns 21 = .ok (.iconst 2, 1) := by decide +kernel
theorem dX6_leastRuns_22 : decode cX6_leastRuns 22 = .ok (.aload_n 0, 1) := by decide +kernel
theorem dX6_leastRuns_23 : decode cX6_leastRuns 23 = .ok (.getfield 7, 3) := by decide +kernel
theorem dX6_leastRuns_26 : decode cX6_leastRuns 26 = .ok (.bipush 48, 2) := by decide +kernel
theorem dX6_leastRuns_28 : decode cX6_leastRuns 28 = .ok (.iaload, 1) := by decide +kernel
theorem dX6_leastRuns_29 : decode cX6_leastRuns 29 = .ok (.imul, 1) := by decide +kernel
theorem dX6_leastRuns_30 : decode cX6_leastRuns 30 = .ok (.if_icmp .ge 109, 3) := by decide +kernel
theorem dX6_leastRuns_33 : decode cX6_leastRuns 33 = .ok (.aload_n 0, 1) := by decide +kernel
theorem dX6_leastRuns_34 : decode cX6_leastRuns 34 = .ok (.iload_n 3, 1) := by decide +kernel
theorem dX6_leastRuns_35 : decode cX6_leastRuns 35 = .ok (.iload_n 1, 1) := by decide +kernel
theorem dX6_leastRuns_36 : decode cX6_leastRuns 36 = .ok (.invokevirtual 70, 3) := by decide +kernel
theorem dX6_leastRuns_39 : decode cX6_leastRuns 39 = .ok (.ifCond .eq 94, 3) := by decide +kernel
theorem dX6_leastRuns_42 : decode cX6_leastRuns 42 = .ok (.aload_n 0, 1) := by decide +kernel
theorem dX6_leastRuns_43 : decode cX6_leastRuns 43 = .ok (.getfield 32, 3) := by decide +kernel
theorem dX6_leastRuns_46 : decode cX6_leastRuns 46 = .ok (.iload_n 3, 1) := by decide +kernel
theorem dX6_leastRuns_47 : decode cX6_leastRuns 47 = .ok (.iaload, 1) := by decide +kernel
theorem dX6_leastRuns_48 : decode cX6_leastRuns 48 = .ok (.iload_n 3, 1) := by decide +kernel
theorem dX6_leastRuns_49 : decode cX6_leastRuns 49 = .ok (.if_icmp .ne 84, 3) := by decide +kernel
theorem dX6_leastRuns_52 : decode cX6_leastRuns 52 = .ok (.iconst 0, 1) := by decide +kernel
theorem dX6_leastRuns_53 : decode cX6_leastRuns 53 = .ok (.istore 4, 2) := by decide +kernel
theorem dX6_leastRuns_55 : decode cX6_leastRuns 55 = .ok (.iconst 0, 1) := by decide +kernel
theorem dX6_leastRuns_56 : decode cX6_leastRuns 56 = .ok (.istore 5, 2) := by decide +kernel
theorem dX6_leastRuns_58 : decode cX6_leastRuns 58 = .ok (.iload 5, 2) := by decide +kernel
theorem dX6_leastRuns_60 : decode cX6_leastRuns 60 = .ok (.iconst 2, 1) := by decide +kernel
theorem dX6_leastRuns_61 : decode cX6_leastRuns 61 = .ok (.aload_n 0, 1) := by decide +kernel
theorem dX6_leastRuns_62 : decode cX6_leastRuns 62 = .ok (.getfield 7, 3) := by decide +kernel
theorem dX6_leastRuns_65 : decode cX6_leastRuns 65 = .ok (.bipush 48, 2) := by decide +kernel
theorem dX6_leastRuns_67 : decode cX6_leastRuns 67 = .ok (.iaload, 1) := by decide +kernel
theorem dX6_leastRuns_68 : decode cX6_leastRuns 68 = .ok (.imul, 1) := by decide +kernel
theorem dX6_leastRuns_69 : decode cX6_leastRuns 69 = .ok (.if_icmp .ge 48, 3) := by decide +kernel
theorem dX6_leastRuns_72 : decode cX6_leastRuns 72 = .ok (.iload 4, 2) := by decide +kernel
theorem dX6_leastRuns_74 : decode cX6_leastRuns 74 = .ok (.aload_n 0, 1) := by decide +kernel
theorem dX6_leastRuns_75 : decode cX6_leastRuns 75 = .ok (.iload 5, 2) := by decide +kernel
theorem dX6_leastRuns_77 : decode cX6_leastRuns 77 = .ok (.iload_n 1, 1) := by decide +kernel
theorem dX6_leastRuns_78 : decode cX6_leastRuns 78 = .ok (.invokevirtual 70, 3) := by decide +kernel
theorem dX6_leastRuns_81 : decode cX6_leastRuns 81 = .ok (.ifCond .eq 26, 3) := by decide +kernel
theorem dX6_leastRuns_84 : decode cX6_leastRuns 84 = .ok (.aload_n 0, 1) := by decide +kernel
theorem dX6_leastRuns_85 : decode cX6_leastRuns 85 = .ok (.getfield 32, 3) := by decide +kernel
theorem dX6_leastRuns_88 : decode cX6_leastRuns 88 = .ok (.iload 5, 2) := by decide +kernel
theorem dX6_leastRuns_90 : decode cX6_leastRuns 90 = .ok (.iaload, 1) := by decide +kernel
theorem dX6_leastRuns_91 : decode cX6_leastRuns 91 = .ok (.iload_n 3, 1) := by decide +kernel
theorem dX6_leastRuns_92 : decode cX6_leastRuns 92 = .ok (.if_icmp .ne 15, 3) := by decide +kernel
theorem dX6_leastRuns_95 : decode cX6_leastRuns 95 = .ok (.aload_n 0, 1) := by decide +kernel
theorem dX6_leastRuns_96 : decode cX6_leastRuns 96 = .ok (.iload 5, 2) := by decide +kernel
theorem dX6_leastRuns_98 : decode cX6_leastRuns 98 = .ok (.iload_n 1, 1) := by decide +kernel
theorem dX6_leastRuns_99 : decode cX6_leastRuns 99 = .ok (.invokevirtual 79, 3) := by decide +kernel
theorem dX6_leastRuns_102 : decode cX6_leastRuns 102 = .ok (.iconst 2, 1) := by decide +kernel
theorem dX6_leastRuns_103 : decode cX6_leastRuns 103 = .ok (.irem, 1) := by decide +kernel
theorem dX6_leastRuns_104 : decode cX6_leastRuns 104 = .ok (.goto 4, 3) := by decide +kernel
theorem dX6_leastRuns_107 : decode cX6_leastRuns 107 = .ok (.iconst 0, 1) := by decide +kernel
theorem dX6_leastRuns_108 : decode cX6_leastRuns 108 = .ok (.iadd, 1) := by decide +kernel
theorem dX6_leastRuns_109 : decode cX6_leastRuns 109 = .ok (.istore 4, 2) := by decide +kernel
theorem dX6_leastRuns_111 : decode cX6_leastRuns 111 = .ok (.iinc 5 1, 3) := by decide +kernel
theorem dX6_leastRuns_114 : decode cX6_leastRuns 114 = .ok (.goto (-56), 3) := by decide +kernel
theorem dX6_leastRuns_117 : decode cX6_leastRuns 117 = .ok (.iload_n 2, 1) := by decide +kernel
theorem dX6_leastRuns_118 : decode cX6_leastRuns 118 = .ok (.iload 4, 2) := by decide +kernel
theorem dX6_leastRuns_120 : decode cX6_leastRuns 120 = .ok (.ifCond .ne 7, 3) := by decide +kernel
theorem dX6_leastRuns_123 : decode cX6_leastRuns 123 = .ok (.iconst 1, 1) := by decide +kernel
theorem dX6_leastRuns_124 : decode cX6_leastRuns 124 = .ok (.goto 7, 3) := by decide +kernel
theorem dX6_leastRuns_127 : decode cX6_leastRuns 127 = .ok (.iload 4, 2) := by decide +kernel
theorem dX6_leastRuns_129 : decode cX6_leastRuns 129 = .ok (.iconst 2, 1) := by decide +kernel
theorem dX6_leastRuns_130 : decode cX6_leastRuns 130 = .ok (.idiv, 1) := by decide +kernel
theorem dX6_leastRuns_131 : decode cX6_leastRuns 131 = .ok (.iadd, 1) := by decide +kernel
theorem dX6_leastRuns_132 : decode cX6_leastRuns 132 = .ok (.istore_n 2, 1) := by decide +kernel
theorem dX6_leastRuns_133 : decode cX6_leastRuns 133 = .ok (.iinc 3 1, 3) := by decide +kernel
theorem dX6_leastRuns_136 : decode cX6_leastRuns 136 = .ok (.goto (-116), 3) := by decide +kernel
theorem dX6_leastRuns_139 : decode cX6_leastRuns 139 = .ok (.iload_n 2, 1) := by decide +kernel
theorem dX6_leastRuns_140 : decode cX6_leastRuns 140 = .ok (.ireturn, 1) := by decide +kernel
theorem dX6_isPosition_0 : decode cX6_isPosition 0 = .ok (.iload_n 1, 1) := by decide +kernel
theorem dX6_isPosition_1 : decode cX6_isPosition 1 = .ok (.iconst 0, 1) := by decide +kernel
theorem dX6_isPosition_2 : decode cX6_isPosition 2 = .ok (.aload_n 0, 1) := by decide +kernel
theorem dX6_isPosition_3 : decode cX6_isPosition 3 = .ok (.getfield 7, 3) := by decide +kernel
theorem dX6_isPosition_6 : decode cX6_isPosition 6 = .ok (.bipush 48, 2) := by decide +kernel
theorem dX6_isPosition_8 : decode cX6_isPosition 8 = .ok (.iaload, 1) := by decide +kernel
theorem dX6_isPosition_9 : decode cX6_isPosition 9 = .ok (.iconst 1, 1) := by decide +kernel
theorem dX6_isPosition_10 : decode cX6_isPosition 10 = .ok (.isub, 1) := by decide +kernel
theorem dX6_isPosition_11 : decode cX6_isPosition 11 = .ok (.invokestatic 38, 3) := by decide +kernel
theorem dX6_isPosition_14 : decode cX6_isPosition 14 = .ok (.ireturn, 1) := by decide +kernel
theorem dX6_at_0 : decode cX6_at 0 = .ok (.aload_n 0, 1) := by decide +kernel
theorem dX6_at_1 : decode cX6_at 1 = .ok (.getfield 7, 3) := by decide +kernel
theorem dX6_at_4 : decode cX6_at 4 = .ok (.bipush 40, 2) := by decide +kernel
theorem dX6_at_6 : decode cX6_at 6 = .ok (.iload_n 1, 1) := by decide +kernel
theorem dX6_at_7 : decode cX6_at 7 = .ok (.iadd, 1) := by decide +kernel
theorem dX6_at_8 : decode cX6_at 8 = .ok (.iaload, 1) := by decide +kernel
theorem dX6_at_9 : decode cX6_at 9 = .ok (.ireturn, 1) := by decide +kernel
theorem dX6_strokeAt_0 : decode cX6_strokeAt 0 = .ok (.iload_n 1, 1) := by decide +kernel
theorem dX6_strokeAt_1 : decode cX6_strokeAt 1 = .ok (.ifCond .ge 7, 3) := by decide +kernel
theorem dX6_strokeAt_4 : decode cX6_strokeAt 4 = .ok (.iconst (-1), 1) := by decide +kernel
theorem dX6_strokeAt_5 : decode cX6_strokeAt 5 = .ok (.goto 23, 3) := by decide +kernel
theorem dX6_strokeAt_8 : decode cX6_strokeAt 8 = .ok (.aload_n 0, 1) := by decide +kernel
theorem dX6_strokeAt_9 : decode cX6_strokeAt 9 = .ok (.iload_n 1, 1) := by decide +kernel
theorem dX6_strokeAt_10 : decode cX6_strokeAt 10 = .ok (.invokevirtual 83, 3) := by decide +kernel
theorem dX6_strokeAt_13 : decode cX6_strokeAt 13 = .ok (.ifCond .eq 13, 3) := by decide +kernel
theorem dX6_strokeAt_16 : decode cX6_strokeAt 16 = .ok (.aload_n 0, 1) := by decide +kernel
theorem dX6_strokeAt_17 : decode cX6_strokeAt 17 = .ok (.iload_n 1, 1) := by decide +kernel
theorem dX6_strokeAt_18 : decode cX6_strokeAt 18 = .ok (.invokevirtual 86, 3) := by decide +kernel
theorem dX6_strokeAt_21 : decode cX6_strokeAt 21 = .ok (.iconst 2, 1) := by decide +kernel
theorem dX6_strokeAt_22 : decode cX6_strokeAt 22 = .ok (.idiv, 1) := by decide +kernel
theorem dX6_strokeAt_23 : decode cX6_strokeAt 23 = .ok (.goto 5, 3) := by decide +kernel
theorem dX6_strokeAt_26 : decode cX6_strokeAt 26 = .ok (.bipush (-3), 2) := by decide +kernel
theorem dX6_strokeAt_28 : decode cX6_strokeAt 28 = .ok (.ireturn, 1) := by decide +kernel
theorem dX6_directionAt_0 : decode cX6_directionAt 0 = .ok (.iload_n 1, 1) := by decide +kernel
theorem dX6_directionAt_1 : decode cX6_directionAt 1 = .ok (.ifCond .ge 7, 3) := by decide +kernel
theorem dX6_directionAt_4 : decode cX6_directionAt 4 = .ok (.iconst (-1), 1) := by decide +kernel
theorem dX6_directionAt_5 : decode cX6_directionAt 5 = .ok (.goto 23, 3) := by decide +kernel
theorem dX6_directionAt_8 : decode cX6_directionAt 8 = .ok (.aload_n 0, 1) := by decide +kernel
theorem dX6_directionAt_9 : decode cX6_directionAt 9 = .ok (.iload_n 1, 1) := by decide +kernel
theorem dX6_directionAt_10 : decode cX6_directionAt 10 = .ok (.invokevirtual 83, 3) := by decide +kernel
theorem dX6_directionAt_13 : decode cX6_directionAt 13 = .ok (.ifCond .eq 13, 3) := by decide +kernel
theorem dX6_directionAt_16 : decode cX6_directionAt 16 = .ok (.aload_n 0, 1) := by decide +kernel
theorem dX6_directionAt_17 : decode cX6_directionAt 17 = .ok (.iload_n 1, 1) := by decide +kernel
theorem dX6_directionAt_18 : decode cX6_directionAt 18 = .ok (.invokevirtual 86, 3) := by decide +kernel
theorem dX6_directionAt_21 : decode cX6_directionAt 21 = .ok (.iconst 2, 1) := by decide +kernel
theorem dX6_directionAt_22 : decode cX6_directionAt 22 = .ok (.irem, 1) := by decide +kernel
theorem dX6_directionAt_23 : decode cX6_directionAt 23 = .ok (.goto 5, 3) := by decide +kernel
theorem dX6_directionAt_26 : decode cX6_directionAt 26 = .ok (.bipush (-3), 2) := by decide +kernel
theorem dX6_directionAt_28 : decode cX6_directionAt 28 = .ok (.ireturn, 1) := by decide +kernel
theorem dX6_movePosition_0 : decode cX6_movePosition 0 = .ok (.aload_n 0, 1) := by decide +kernel
theorem dX6_movePosition_1 : decode cX6_movePosition 1 = .ok (.iload_n 1, 1) := by decide +kernel
theorem dX6_movePosition_2 : decode cX6_movePosition 2 = .ok (.invokevirtual 83, 3) := by decide +kernel
theorem dX6_movePosition_5 : decode cX6_movePosition 5 = .ok (.ifCond .eq 11, 3) := by decide +kernel
theorem dX6_movePosition_8 : decode cX6_movePosition 8 = .ok (.aload_n 0, 1) := by decide +kernel
theorem dX6_movePosition_9 : decode cX6_movePosition 9 = .ok (.iload_n 2, 1) := by decide +kernel
theorem dX6_movePosition_10 : decode cX6_movePosition 10 = .ok (.invokevirtual 83, 3) := by decide +kernel
theorem dX6_movePosition_13 : decode cX6_movePosition 13 = .ok (.ifCond .ne 5, 3) := by decide +kernel
theorem dX6_movePosition_16 : decode cX6_movePosition 16 = .ok (.iconst (-1), 1) := by decide +kernel
theorem dX6_movePosition_17 : decode cX6_movePosition 17 = .ok (.ireturn, 1) := by decide +kernel
theorem dX6_movePosition_18 : decode cX6_movePosition 18 = .ok (.aload_n 0, 1) := by decide +kernel
theorem dX6_movePosition_19 : decode cX6_movePosition 19 = .ok (.invokevirtual 45, 3) := by decide +kernel
theorem dX6_movePosition_22 : decode cX6_movePosition 22 = .ok (.aload_n 0, 1) := by decide +kernel
theorem dX6_movePosition_23 : decode cX6_movePosition 23 = .ok (.iload_n 1, 1) := by decide +kernel
theorem dX6_movePosition_24 : decode cX6_movePosition 24 = .ok (.invokevirtual 86, 3) := by decide +kernel
theorem dX6_movePosition_27 : decode cX6_movePosition 27 = .ok (.istore_n 3, 1) := by decide +kernel
theorem dX6_movePosition_28 : decode cX6_movePosition 28 = .ok (.iload_n 1, 1) := by decide +kernel
theorem dX6_movePosition_29 : decode cX6_movePosition 29 = .ok (.iload_n 2, 1) := by decide +kernel
theorem dX6_movePosition_30 : decode cX6_movePosition 30 = .ok (.if_icmp .ge 7, 3) := by decide +kernel
theorem dX6_movePosition_33 : decode cX6_movePosition 33 = .ok (.iconst 1, 1) := by decide +kernel
theorem dX6_movePosition_34 : decode cX6_movePosition 34 = .ok (.goto 4, 3) := by decide +kernel
theorem dX6_movePosition_37 : decode cX6_movePosition 37 = .ok (.iconst (-1), 1) := by decide +kernel
theorem dX6_movePosition_38 : decode cX6_movePosition 38 = .ok (.istore 4, 2) := by decide +kernel
theorem dX6_movePosition_40 : decode cX6_movePosition 40 = .ok (.iload_n 1, 1) := by decide +kernel
theorem dX6_movePosition_41 : decode cX6_movePosition 41 = .ok (.istore 5, 2) := by decide +kernel
theorem dX6_movePosition_43 : decode cX6_movePosition 43 = .ok (.iload 5, 2) := by decide +kernel
theorem dX6_movePosition_45 : decode cX6_movePosition 45 = .ok (.iload_n 2, 1) := by decide +kernel
theorem dX6_movePosition_46 : decode cX6_movePosition 46 = .ok (.if_icmp .eq 36, 3) := by decide +kernel
theorem dX6_movePosition_49 : decode cX6_movePosition 49 = .ok (.aload_n 0, 1) := by decide +kernel
theorem dX6_movePosition_50 : decode cX6_movePosition 50 = .ok (.getfield 7, 3) := by decide +kernel
theorem dX6_movePosition_53 : decode cX6_movePosition 53 = .ok (.bipush 40, 2) := by decide +kernel
theorem dX6_movePosition_55 : decode cX6_movePosition 55 = .ok (.iload 5, 2) := by decide +kernel
theorem dX6_movePosition_57 : decode cX6_movePosition 57 = .ok (.iadd, 1) := by decide +kernel
theorem dX6_movePosition_58 : decode cX6_movePosition 58 = .ok (.aload_n 0, 1) := by decide +kernel
theorem dX6_movePosition_59 : decode cX6_movePosition 59 = .ok (.getfield 7, 3) := by decide +kernel
theorem dX6_movePosition_62 : decode cX6_movePosition 62 = .ok (.bipush 40, 2) := by decide +kernel
theorem dX6_movePosition_64 : decode cX6_movePosition 64 = .ok (.iload 5, 2) := by decide +kernel
theorem dX6_movePosition_66 : decode cX6_movePosition 66 = .ok (.iadd, 1) := by decide +kernel
theorem dX6_movePosition_67 : decode cX6_movePosition 67 = .ok (.iload 4, 2) := by decide +kernel
theorem dX6_movePosition_69 : decode cX6_movePosition 69 = .ok (.iadd, 1) := by decide +kernel
theorem dX6_movePosition_70 : decode cX6_movePosition 70 = .ok (.iaload, 1) := by decide +kernel
theorem dX6_movePosition_71 : decode cX6_movePosition 71 = .ok (.iastore, 1) := by decide +kernel
theorem dX6_movePosition_72 : decode cX6_movePosition 72 = .ok (.iload 5, 2) := by decide +kernel
theorem dX6_movePosition_74 : decode cX6_movePosition 74 = .ok (.iload 4, 2) := by decide +kernel
theorem dX6_movePosition_76 : decode cX6_movePosition 76 = .ok (.iadd, 1) := by decide +kernel
theorem dX6_movePosition_77 : decode cX6_movePosition 77 = .ok (.istore 5, 2) := by decide +kernel
theorem dX6_movePosition_79 : decode cX6_movePosition 79 = .ok (.goto (-36), 3) := by decide +kernel
theorem dX6_movePosition_82 : decode cX6_movePosition 82 = .ok (.aload_n 0, 1) := by decide +kernel
theorem dX6_movePosition_83 : decode cX6_movePosition 83 = .ok (.getfield 7, 3) := by decide +kernel
theorem dX6_movePosition_86 : decode cX6_movePosition 86 = .ok (.bipush 40, 2) := by decide +kernel
theorem dX6_movePosition_88 : decode cX6_movePosition 88 = .ok (.iload_n 2, 1) := by decide +kernel
theorem dX6_movePosition_89 : decode cX6_movePosition 89 = .ok (.iadd, 1) := by decide +kernel
theorem dX6_movePosition_90 : decode cX6_movePosition 90 = .ok (.iload_n 3, 1) := by decide +kernel
theorem dX6_movePosition_91 : decode cX6_movePosition 91 = .ok (.iastore, 1) := by decide +kernel
theorem dX6_movePosition_92 : decode cX6_movePosition 92 = .ok (.iload_n 3, 1) := by decide +kernel
theorem dX6_movePosition_93 : decode cX6_movePosition 93 = .ok (.iconst 2, 1) := by decide +kernel
theorem dX6_movePosition_94 : decode cX6_movePosition 94 = .ok (.idiv, 1) := by decide +kernel
theorem dX6_movePosition_95 : decode cX6_movePosition 95 = .ok (.ireturn, 1) := by decide +kernel
theorem dX6_turnPosition_0 : decode cX6_turnPosition 0 = .ok (.aload_n 0, 1) := by decide +kernel
theorem dX6_turnPosition_1 : decode cX6_turnPosition 1 = .ok (.iload_n 1, 1) := by decide +kernel
theorem dX6_turnPosition_2 : decode cX6_turnPosition 2 = .ok (.invokevirtual 83, 3) := by decide +kernel
theorem dX6_turnPosition_5 : decode cX6_turnPosition 5 = .ok (.ifCond .ne 5, 3) := by decide +kernel
theorem dX6_turnPosition_8 : decode cX6_turnPosition 8 = .ok (.iconst (-1), 1) := by decide +kernel
theorem dX6_turnPosition_9 : decode cX6_turnPosition 9 = .ok (.ireturn, 1) := by decide +kernel
theorem dX6_turnPosition_10 : decode cX6_turnPosition 10 = .ok (.aload_n 0, 1) := by decide +kernel
theorem dX6_turnPosition_11 : decode cX6_turnPosition 11 = .ok (.invokevirtual 45, 3) := by decide +kernel
theorem dX6_turnPosition_14 : decode cX6_turnPosition 14 = .ok (.aload_n 0, 1) := by decide +kernel
theorem dX6_turnPosition_15 : decode cX6_turnPosition 15 = .ok (.getfield 7, 3) := by decide +kernel
theorem dX6_turnPosition_18 : decode cX6_turnPosition 18 = .ok (.bipush 40, 2) := by decide +kernel
theorem dX6_turnPosition_20 : decode cX6_turnPosition 20 = .ok (.iload_n 1, 1) := by decide +kernel
theorem dX6_turnPosition_21 : decode cX6_turnPosition 21 = .ok (.iadd, 1) := by decide +kernel
theorem dX6_turnPosition_22 : decode cX6_turnPosition 22 = .ok (.dup2, 1) := by decide +kernel
theorem dX6_turnPosition_23 : decode cX6_turnPosition 23 = .ok (.iaload, 1) := by decide +kernel
theorem dX6_turnPosition_24 : decode cX6_turnPosition 24 = .ok (.iconst 1, 1) := by decide +kernel
theorem dX6_turnPosition_25 : decode cX6_turnPosition 25 = .ok (.ixor, 1) := by decide +kernel
theorem dX6_turnPosition_26 : decode cX6_turnPosition 26 = .ok (.iastore, 1) := by decide +kernel
theorem dX6_turnPosition_27 : decode cX6_turnPosition 27 = .ok (.aload_n 0, 1) := by decide +kernel
theorem dX6_turnPosition_28 : decode cX6_turnPosition 28 = .ok (.iload_n 1, 1) := by decide +kernel
theorem dX6_turnPosition_29 : decode cX6_turnPosition 29 = .ok (.invokevirtual 86, 3) := by decide +kernel
theorem dX6_turnPosition_32 : decode cX6_turnPosition 32 = .ok (.iconst 2, 1) := by decide +kernel
theorem dX6_turnPosition_33 : decode cX6_turnPosition 33 = .ok (.irem, 1) := by decide +kernel
theorem dX6_turnPosition_34 : decode cX6_turnPosition 34 = .ok (.ireturn, 1) := by decide +kernel
theorem dX6_begin_0 : decode cX6_begin 0 = .ok (.iconst 5, 1) := by decide +kernel
theorem dX6_begin_1 : decode cX6_begin 1 = .ok (.iload_n 0, 1) := by decide +kernel
theorem dX6_begin_2 : decode cX6_begin 2 = .ok (.iconst 2, 1) := by decide +kernel
theorem dX6_begin_3 : decode cX6_begin 3 = .ok (.idiv, 1) := by decide +kernel
theorem dX6_begin_4 : decode cX6_begin 4 = .ok (.imul, 1) := by decide +kernel
theorem dX6_begin_5 : decode cX6_begin 5 = .ok (.iconst 2, 1) := by decide +kernel
theorem dX6_begin_6 : decode cX6_begin 6 = .ok (.iload_n 0, 1) := by decide +kernel
theorem dX6_begin_7 : decode cX6_begin 7 = .ok (.iconst 2, 1) := by decide +kernel
theorem dX6_begin_8 : decode cX6_begin 8 = .ok (.irem, 1) := by decide +kernel
theorem dX6_begin_9 : decode cX6_begin 9 = .ok (.imul, 1) := by decide +kernel
theorem dX6_begin_10 : decode cX6_begin 10 = .ok (.iadd, 1) := by decide +kernel
theorem dX6_begin_11 : decode cX6_begin 11 = .ok (.ireturn, 1) := by decide +kernel
theorem dX6_end_0 : decode cX6_end 0 = .ok (.iconst 5, 1) := by decide +kernel
theorem dX6_end_1 : decode cX6_end 1 = .ok (.iload_n 0, 1) := by decide +kernel
theorem dX6_end_2 : decode cX6_end 2 = .ok (.iconst 2, 1) := by decide +kernel
theorem dX6_end_3 : decode cX6_end 3 = .ok (.idiv, 1) := by decide +kernel
theorem dX6_end_4 : decode cX6_end 4 = .ok (.imul, 1) := by decide +kernel
theorem dX6_end_5 : decode cX6_end 5 = .ok (.iconst 2, 1) := by decide +kernel
theorem dX6_end_6 : decode cX6_end 6 = .ok (.iadd, 1) := by decide +kernel
theorem dX6_end_7 : decode cX6_end 7 = .ok (.iconst 2, 1) := by decide +kernel
theorem dX6_end_8 : decode cX6_end 8 = .ok (.iload_n 0, 1) := by decide +kernel
theorem dX6_end_9 : decode cX6_end 9 = .ok (.iconst 2, 1) := by decide +kernel
theorem dX6_end_10 : decode cX6_end 10 = .ok (.irem, 1) := by decide +kernel
theorem dX6_end_11 : decode cX6_end 11 = .ok (.imul, 1) := by decide +kernel
theorem dX6_end_12 : decode cX6_end 12 = .ok (.isub, 1) := by decide +kernel
theorem dX6_end_13 : decode cX6_end 13 = .ok (.ireturn, 1) := by decide +kernel
theorem dX6_far_0 : decode cX6_far 0 = .ok (.iload_n 0, 1) := by decide +kernel
theorem dX6_far_1 : decode cX6_far 1 = .ok (.ifCond .ge 8, 3) := by decide +kernel
theorem dX6_far_4 : decode cX6_far 4 = .ok (.iload_n 0, 1) := by decide +kernel
theorem dX6_far_5 : decode cX6_far 5 = .ok (.ineg, 1) := by decide +kernel
theorem dX6_far_6 : decode cX6_far 6 = .ok (.goto 4, 3) := by decide +kernel
theorem dX6_far_9 : decode cX6_far 9 = .ok (.iload_n 0, 1) := by decide +kernel
theorem dX6_far_10 : decode cX6_far 10 = .ok (.istore_n 2, 1) := by decide +kernel
theorem dX6_far_11 : decode cX6_far 11 = .ok (.iload_n 1, 1) := by decide +kernel
theorem dX6_far_12 : decode cX6_far 12 = .ok (.ifCond .ge 8, 3) := by decide +kernel
theorem dX6_far_15 : decode cX6_far 15 = .ok (.iload_n 1, 1) := by decide +kernel
theorem dX6_far_16 : decode cX6_far 16 = .ok (.ineg, 1) := by decide +kernel
theorem dX6_far_17 : decode cX6_far 17 = .ok (.goto 4, 3) := by decide +kernel
theorem dX6_far_20 : decode cX6_far 20 = .ok (.iload_n 1, 1) := by decide +kernel
theorem dX6_far_21 : decode cX6_far 21 = .ok (.istore_n 3, 1) := by decide +kernel
theorem dX6_far_22 : decode cX6_far 22 = .ok (.iload_n 2, 1) := by decide +kernel
theorem dX6_far_23 : decode cX6_far 23 = .ok (.iload_n 3, 1) := by decide +kernel
theorem dX6_far_24 : decode cX6_far 24 = .ok (.if_icmp .le 7, 3) := by decide +kernel
theorem dX6_far_27 : decode cX6_far 27 = .ok (.iload_n 2, 1) := by decide +kernel
theorem dX6_far_28 : decode cX6_far 28 = .ok (.goto 4, 3) := by decide +kernel
theorem dX6_far_31 : decode cX6_far 31 = .ok (.iload_n 3, 1) := by decide +kernel
theorem dX6_far_32 : decode cX6_far 32 = .ok (.ireturn, 1) := by decide +kernel
theorem dX6_step_0 : decode cX6_step 0 = .ok (.aload_n 0, 1) := by decide +kernel
theorem dX6_step_1 : decode cX6_step 1 = .ok (.getfield 7, 3) := by decide +kernel
theorem dX6_step_4 : decode cX6_step 4 = .ok (.iload_n 2, 1) := by decide +kernel
theorem dX6_step_5 : decode cX6_step 5 = .ok (.invokestatic 89, 3) := by decide +kernel
theorem dX6_step_8 : decode cX6_step 8 = .ok (.iaload, 1) := by decide +kernel
theorem dX6_step_9 : decode cX6_step 9 = .ok (.iload_n 1, 1) := by decide +kernel
theorem dX6_step_10 : decode cX6_step 10 = .ok (.ifCond .ge 7, 3) := by decide +kernel
theorem dX6_step_13 : decode cX6_step 13 = .ok (.iconst 0, 1) := by decide +kernel
theorem dX6_step_14 : decode cX6_step 14 = .ok (.goto 12, 3) := by decide +kernel
theorem dX6_step_17 : decode cX6_step 17 = .ok (.aload_n 0, 1) := by decide +kernel
theorem dX6_step_18 : decode cX6_step 18 = .ok (.getfield 7, 3) := by decide +kernel
theorem dX6_step_21 : decode cX6_step 21 = .ok (.iload_n 1, 1) := by decide +kernel
theorem dX6_step_22 : decode cX6_step 22 = .ok (.invokestatic 92, 3) := by decide +kernel
theorem dX6_step_25 : decode cX6_step 25 = .ok (.iaload, 1) := by decide +kernel
theorem dX6_step_26 : decode cX6_step 26 = .ok (.isub, 1) := by decide +kernel
theorem dX6_step_27 : decode cX6_step 27 = .ok (.istore_n 3, 1) := by decide +kernel
theorem dX6_step_28 : decode cX6_step 28 = .ok (.aload_n 0, 1) := by decide +kernel
theorem dX6_step_29 : decode cX6_step 29 = .ok (.getfield 7, 3) := by decide +kernel
theorem dX6_step_32 : decode cX6_step 32 = .ok (.iload_n 2, 1) := by decide +kernel
theorem dX6_step_33 : decode cX6_step 33 = .ok (.invokestatic 89, 3) := by decide +kernel
theorem dX6_step_36 : decode cX6_step 36 = .ok (.iconst 1, 1) := by decide +kernel
theorem dX6_step_37 : decode cX6_step 37 = .ok (.iadd, 1) := by decide +kernel
theorem dX6_step_38 : decode cX6_step 38 = .ok (.iaload, 1) := by decide +kernel
theorem dX6_step_39 : decode cX6_step 39 = .ok (.iload_n 1, 1) := by decide +kernel
theorem dX6_step_40 : decode cX6_step 40 = .ok (.ifCond .ge 7, 3) := by decide +kernel
theorem dX6_step_43 : decode cX6_step 43 = .ok (.iconst 0, 1) := by decide +kernel
theorem dX6_step_44 : decode cX6_step 44 = .ok (.goto 14, 3) := by decide +kernel
theorem dX6_step_47 : decode cX6_step 47 = .ok (.aload_n 0, 1) := by decide +kernel
theorem dX6_step_48 : decode cX6_step 48 = .ok (.getfield 7, 3) := by decide +kernel
theorem dX6_step_51 : decode cX6_step 51 = .ok (.iload_n 1, 1) := by decide +kernel
theorem dX6_step_52 : decode cX6_step 52 = .ok (.invokestatic 92, 3) := by decide +kernel
theorem dX6_step_55 : decode cX6_step 55 = .ok (.iconst 1, 1) := by decide +kernel
theorem dX6_step_56 : decode cX6_step 56 = .ok (.iadd, 1) := by decide +kernel
theorem dX6_step_57 : decode cX6_step 57 = .ok (.iaload, 1) := by decide +kernel
theorem dX6_step_58 : decode cX6_step 58 = .ok (.isub, 1) := by decide +kernel
theorem dX6_step_59 : decode cX6_step 59 = .ok (.istore 4, 2) := by decide +kernel
theorem dX6_step_61 : decode cX6_step 61 = .ok (.iload_n 3, 1) := by decide +kernel
theorem dX6_step_62 : decode cX6_step 62 = .ok (.iload 4, 2) := by decide +kernel
theorem dX6_step_64 : decode cX6_step 64 = .ok (.invokestatic 95, 3) := by decide +kernel
theorem dX6_step_67 : decode cX6_step 67 = .ok (.iload_n 1, 1) := by decide +kernel
theorem dX6_step_68 : decode cX6_step 68 = .ok (.ifCond .lt 20, 3) := by decide +kernel
theorem dX6_step_71 : decode cX6_step 71 = .ok (.aload_n 0, 1) := by decide +kernel
theorem dX6_step_72 : decode cX6_step 72 = .ok (.iload_n 1, 1) := by decide +kernel
theorem dX6_step_73 : decode cX6_step 73 = .ok (.iconst 2, 1) := by decide +kernel
theorem dX6_step_74 : decode cX6_step 74 = .ok (.idiv, 1) := by decide +kernel
theorem dX6_step_75 : decode cX6_step 75 = .ok (.invokevirtual 56, 3) := by decide +kernel
theorem dX6_step_78 : decode cX6_step 78 = .ok (.aload_n 0, 1) := by decide +kernel
theorem dX6_step_79 : decode cX6_step 79 = .ok (.iload_n 2, 1) := by decide +kernel
theorem dX6_step_80 : decode cX6_step 80 = .ok (.iconst 2, 1) := by decide +kernel
theorem dX6_step_81 : decode cX6_step 81 = .ok (.idiv, 1) := by decide +kernel
theorem dX6_step_82 : decode cX6_step 82 = .ok (.invokevirtual 56, 3) := by decide +kernel
theorem dX6_step_85 : decode cX6_step 85 = .ok (.if_icmp .eq 10, 3) := by decide +kernel
theorem dX6_step_88 : decode cX6_step 88 = .ok (.aload_n 0, 1) := by decide +kernel
theorem dX6_step_89 : decode cX6_step 89 = .ok (.getfield 16, 3) := by decide +kernel
theorem dX6_step_92 : decode cX6_step 92 = .ok (.goto 4, 3) := by decide +kernel
theorem dX6_step_95 : decode cX6_step 95 = .ok (.iconst 0, 1) := by decide +kernel
theorem dX6_step_96 : decode cX6_step 96 = .ok (.iadd, 1) := by decide +kernel
theorem dX6_step_97 : decode cX6_step 97 = .ok (.ireturn, 1) := by decide +kernel
theorem dX6_cost_0 : decode cX6_cost 0 = .ok (.iconst 0, 1) := by decide +kernel
theorem dX6_cost_1 : decode cX6_cost 1 = .ok (.istore_n 1, 1) := by decide +kernel
theorem dX6_cost_2 : decode cX6_cost 2 = .ok (.iconst 0, 1) := by decide +kernel
theorem dX6_cost_3 : decode cX6_cost 3 = .ok (.istore_n 2, 1) := by decide +kernel
theorem dX6_cost_4 : decode cX6_cost 4 = .ok (.iload_n 2, 1) := by decide +kernel
theorem dX6_cost_5 : decode cX6_cost 5 = .ok (.aload_n 0, 1) := by decide +kernel
theorem dX6_cost_6 : decode cX6_cost 6 = .ok (.getfield 7, 3) := by decide +kernel
theorem dX6_cost_9 : decode cX6_cost 9 = .ok (.bipush 48, 2) := by decide +kernel
theorem dX6_cost_11 : decode cX6_cost 11 = .ok (.iaload, 1) := by decide +kernel
theorem dX6_cost_12 : decode cX6_cost 12 = .ok (.if_icmp .ge 36, 3) := by decide +kernel
theorem dX6_cost_15 : decode cX6_cost 15 = .ok (.iload_n 1, 1) := by decide +kernel
theorem dX6_cost_16 : decode cX6_cost 16 = .ok (.aload_n 0, 1) := by decide +kernel
theorem dX6_cost_17 : decode cX6_cost 17 = .ok (.iload_n 2, 1) := by decide +kernel
theorem dX6_cost_18 : decode cX6_cost 18 = .ok (.ifCond .ne 7, 3) := by decide +kernel
theorem dX6_cost_21 : decode cX6_cost 21 = .ok (.iconst (-1), 1) := by decide +kernel
theorem dX6_cost_22 : decode cX6_cost 22 = .ok (.goto 10, 3) := by decide +kernel
theorem dX6_cost_25 : decode cX6_cost 25 = .ok (.aload_n 0, 1) := by decide +kernel
theorem dX6_cost_26 : decode cX6_cost 26 = .ok (.iload_n 2, 1) := by decide +kernel
theorem dX6_cost_27 : decode cX6_cost 27 = .ok (.iconst 1, 1) := by decide +kernel
theorem dX6_cost_28 : decode cX6_cost 28 = .ok (.isub, 1) := by decide +kernel
theorem dX6_cost_29 : decode cX6_cost 29 = .ok (.invokevirtual 86, 3) := by decide +kernel
theorem dX6_cost_32 : decode cX6_cost 32 = .ok (.aload_n 0, 1) := by decide +kernel
theorem dX6_cost_33 : decode cX6_cost 33 = .ok (.iload_n 2, 1) := by decide +kernel
theorem dX6_cost_34 : decode cX6_cost 34 = .ok (.invokevirtual 86, 3) := by decide +kernel
theorem dX6_cost_37 : decode cX6_cost 37 = .ok (.invokevirtual 98, 3) := by decide +kernel
theorem dX6_cost_40 : decode cX6_cost 40 = .ok (.iadd, 1) := by decide +kernel
theorem dX6_cost_41 : decode cX6_cost 41 = .ok (.istore_n 1, 1) := by decide +kernel
theorem dX6_cost_42 : decode cX6_cost 42 = .ok (.iinc 2 1, 3) := by decide +kernel
theorem dX6_cost_45 : decode cX6_cost 45 = .ok (.goto (-41), 3) := by decide +kernel
theorem dX6_cost_48 : decode cX6_cost 48 = .ok (.iload_n 1, 1) := by decide +kernel
theorem dX6_cost_49 : decode cX6_cost 49 = .ok (.ireturn, 1) := by decide +kernel
theorem dX6_penChanges_0 : decode cX6_penChanges 0 = .ok (.iconst 0, 1) := by decide +kernel
theorem dX6_penChanges_1 : decode cX6_penChanges 1 = .ok (.istore_n 1, 1) := by decide +kernel
theorem dX6_penChanges_2 : decode cX6_penChanges 2 = .ok (.iconst 0, 1) := by decide +kernel
theorem dX6_penChanges_3 : decode cX6_penChanges 3 = .ok (.istore_n 2, 1) := by decide +kernel
theorem dX6_penChanges_4 : decode cX6_penChanges 4 = .ok (.iload_n 2, 1) := by decide +kernel
theorem dX6_penChanges_5 : decode cX6_penChanges 5 = .ok (.aload_n 0, 1) := by decide +kernel
theorem dX6_penChanges_6 : decode cX6_penChanges 6 = .ok (.getfield 7, 3) := by decide +kernel
theorem dX6_penChanges_9 : decode cX6_penChanges 9 = .ok (.bipush 48, 2) := by decide +kernel
theorem dX6_penChanges_11 : decode cX6_penChanges 11 = .ok (.iaload, 1) := by decide +kernel
theorem dX6_penChanges_12 : decode cX6_penChanges 12 = .ok (.if_icmp .ge 48, 3) := by decide +kernel
theorem dX6_penChanges_15 : decode cX6_penChanges 15 = .ok (.iload_n 1, 1) := by decide +kernel
theorem dX6_penChanges_16 : decode cX6_penChanges 16 = .ok (.iload_n 2, 1) := by decide +kernel
theorem dX6_penChanges_17 : decode cX6_penChanges 17 = .ok (.ifCond .eq 30, 3) := by decide +kernel
theorem dX6_penChanges_20 : decode cX6_penChanges 20 = .ok (.aload_n 0, 1) := by decide +kernel
theorem dX6_penChanges_21 : decode cX6_penChanges 21 = .ok (.aload_n 0, 1) := by decide +kernel
theorem dX6_penChanges_22 : decode cX6_penChanges 22 = .ok (.iload_n 2, 1) := by decide +kernel
theorem dX6_penChanges_23 : decode cX6_penChanges 23 = .ok (.iconst 1, 1) := by decide +kernel
theorem dX6_penChanges_24 : decode cX6_penChanges 24 = .ok (.isub, 1) := by decide +kernel
theorem dX6_penChanges_25 : decode cX6_penChanges 25 = .ok (.invokevirtual 86, 3) := by decide +kernel
theorem dX6_penChanges_28 : decode cX6_penChanges 28 = .ok (.iconst 2, 1) := by decide +kernel
theorem dX6_penChanges_29 : decode cX6_penChanges 29 = .ok (.idiv, 1) := by decide +kernel
theorem dX6_penChanges_30 : decode cX6_penChanges 30 = .ok (.invokevirtual 56, 3) := by decide +kernel
theorem dX6_penChanges_33 : decode cX6_penChanges 33 = .ok (.aload_n 0, 1) := by decide +kernel
theorem dX6_penChanges_34 : decode cX6_penChanges 34 = .ok (.aload_n 0, 1) := by decide +kernel
theorem dX6_penChanges_35 : decode cX6_penChanges 35 = .ok (.iload_n 2, 1) := by decide +kernel
theorem dX6_penChanges_36 : decode cX6_penChanges 36 = .ok (.invokevirtual 86, 3) := by decide +kernel
theorem dX6_penChanges_39 : decode cX6_penChanges 39 = .ok (.iconst 2, 1) := by decide +kernel
theorem dX6_penChanges_40 : decode cX6_penChanges 40 = .ok (.idiv, 1) := by decide +kernel
theorem dX6_penChanges_41 : decode cX6_penChanges 41 = .ok (.invokevirtual 56, 3) := by decide +kernel
theorem dX6_penChanges_44 : decode cX6_penChanges 44 = .ok (.if_icmp .eq 7, 3) := by decide +kernel
theorem dX6_penChanges_47 : decode cX6_penChanges 47 = .ok (.iconst 1, 1) := by decide +kernel
theorem dX6_penChanges_48 : decode cX6_penChanges 48 = .ok (.goto 4, 3) := by decide +kernel
theorem dX6_penChanges_51 : decode cX6_penChanges 51 = .ok (.iconst 0, 1) := by decide +kernel
theorem dX6_penChanges_52 : decode cX6_penChanges 52 = .ok (.iadd, 1) := by decide +kernel
theorem dX6_penChanges_53 : decode cX6_penChanges 53 = .ok (.istore_n 1, 1) := by decide +kernel
theorem dX6_penChanges_54 : decode cX6_penChanges 54 = .ok (.iinc 2 1, 3) := by decide +kernel
theorem dX6_penChanges_57 : decode cX6_penChanges 57 = .ok (.goto (-53), 3) := by decide +kernel
theorem dX6_penChanges_60 : decode cX6_penChanges 60 = .ok (.iload_n 1, 1) := by decide +kernel
theorem dX6_penChanges_61 : decode cX6_penChanges 61 = .ok (.ireturn, 1) := by decide +kernel
theorem dX6_isLinked_0 : decode cX6_isLinked 0 = .ok (.iload_n 1, 1) := by decide +kernel
theorem dX6_isLinked_1 : decode cX6_isLinked 1 = .ok (.ifCond .lt 16, 3) := by decide +kernel
theorem dX6_isLinked_4 : decode cX6_isLinked 4 = .ok (.iload_n 1, 1) := by decide +kernel
theorem dX6_isLinked_5 : decode cX6_isLinked 5 = .ok (.iconst 1, 1) := by decide +kernel
theorem dX6_isLinked_6 : decode cX6_isLinked 6 = .ok (.iadd, 1) := by decide +kernel
theorem dX6_isLinked_7 : decode cX6_isLinked 7 = .ok (.aload_n 0, 1) := by decide +kernel
theorem dX6_isLinked_8 : decode cX6_isLinked 8 = .ok (.getfield 7, 3) := by decide +kernel
theorem dX6_isLinked_11 : decode cX6_isLinked 11 = .ok (.bipush 48, 2) := by decide +kernel
theorem dX6_isLinked_13 : decode cX6_isLinked 13 = .ok (.iaload, 1) := by decide +kernel
theorem dX6_isLinked_14 : decode cX6_isLinked 14 = .ok (.if_icmp .lt 5, 3) := by decide +kernel
theorem dX6_isLinked_17 : decode cX6_isLinked 17 = .ok (.iconst 0, 1) := by decide +kernel
theorem dX6_isLinked_18 : decode cX6_isLinked 18 = .ok (.ireturn, 1) := by decide +kernel
theorem dX6_isLinked_19 : decode cX6_isLinked 19 = .ok (.aload_n 0, 1) := by decide +kernel
theorem dX6_isLinked_20 : decode cX6_isLinked 20 = .ok (.iload_n 1, 1) := by decide +kernel
theorem dX6_isLinked_21 : decode cX6_isLinked 21 = .ok (.invokevirtual 86, 3) := by decide +kernel
theorem dX6_isLinked_24 : decode cX6_isLinked 24 = .ok (.invokestatic 92, 3) := by decide +kernel
theorem dX6_isLinked_27 : decode cX6_isLinked 27 = .ok (.istore_n 2, 1) := by decide +kernel
theorem dX6_isLinked_28 : decode cX6_isLinked 28 = .ok (.aload_n 0, 1) := by decide +kernel
theorem dX6_isLinked_29 : decode cX6_isLinked 29 = .ok (.iload_n 1, 1) := by decide +kernel
theorem dX6_isLinked_30 : decode cX6_isLinked 30 = .ok (.iconst 1, 1) := by decide +kernel
theorem dX6_isLinked_31 : decode cX6_isLinked 31 = .ok (.iadd, 1) := by decide +kernel
theorem dX6_isLinked_32 : decode cX6_isLinked 32 = .ok (.invokevirtual 86, 3) := by decide +kernel
theorem dX6_isLinked_35 : decode cX6_isLinked 35 = .ok (.invokestatic 89, 3) := by decide +kernel
theorem dX6_isLinked_38 : decode cX6_isLinked 38 = .ok (.istore_n 3, 1) := by decide +kernel
theorem dX6_isLinked_39 : decode cX6_isLinked 39 = .ok (.aload_n 0, 1) := by decide +kernel
theorem dX6_isLinked_40 : decode cX6_isLinked 40 = .ok (.aload_n 0, 1) := by decide +kernel
theorem dX6_isLinked_41 : decode cX6_isLinked 41 = .ok (.iload_n 1, 1) := by decide +kernel
theorem dX6_isLinked_42 : decode cX6_isLinked 42 = .ok (.invokevirtual 86, 3) := by decide +kernel
theorem dX6_isLinked_45 : decode cX6_isLinked 45 = .ok (.iconst 2, 1) := by decide +kernel
theorem dX6_isLinked_46 : decode cX6_isLinked 46 = .ok (.idiv, 1) := by decide +kernel
theorem dX6_isLinked_47 : decode cX6_isLinked 47 = .ok (.invokevirtual 56, 3) := by decide +kernel
theorem dX6_isLinked_50 : decode cX6_isLinked 50 = .ok (.aload_n 0, 1) := by decide +kernel
theorem dX6_isLinked_51 : decode cX6_isLinked 51 = .ok (.aload_n 0, 1) := by decide +kernel
theorem dX6_isLinked_52 : decode cX6_isLinked 52 = .ok (.iload_n 1, 1) := by decide +kernel
theorem dX6_isLinked_53 : decode cX6_isLinked 53 = .ok (.iconst 1, 1) := by decide +kernel
theorem dX6_isLinked_54 : decode cX6_isLinked 54 = .ok (.iadd, 1) := by decide +kernel
theorem dX6_isLinked_55 : decode cX6_isLinked 55 = .ok (.invokevirtual 86, 3) := by decide +kernel
theorem dX6_isLinked_58 : decode cX6_isLinked 58 = .ok (.iconst 2, 1) := by decide +kernel
theorem dX6_isLinked_59 : decode cX6_isLinked 59 = .ok (.idiv, 1) := by decide +kernel
theorem dX6_isLinked_60 : decode cX6_isLinked 60 = .ok (.invokevirtual 56, 3) := by decide +kernel
theorem dX6_isLinked_63 : decode cX6_isLinked 63 = .ok (.if_icmp .ne 41, 3) := by decide +kernel
theorem dX6_isLinked_66 : decode cX6_isLinked 66 = .ok (.aload_n 0, 1) := by decide +kernel
theorem dX6_isLinked_67 : decode cX6_isLinked 67 = .ok (.getfield 7, 3) := by decide +kernel
theorem dX6_isLinked_70 : decode cX6_isLinked 70 = .ok (.iload_n 2, 1) := by decide +kernel
theorem dX6_isLinked_71 : decode cX6_isLinked 71 = .ok (.iaload, 1) := by decide +kernel
theorem dX6_isLinked_72 : decode cX6_isLinked 72 = .ok (.aload_n 0, 1) := by decide +kernel
theorem dX6_isLinked_73 : decode cX6_isLinked 73 = .ok (.getfield 7, 3) := by decide +kernel
theorem dX6_isLinked_76 : decode cX6_isLinked 76 = .ok (.iload_n 3, 1) := by decide +kernel
theorem dX6_isLinked_77 : decode cX6_isLinked 77 = .ok (.iaload, 1) := by decide +kernel
theorem dX6_isLinked_78 : decode cX6_isLinked 78 = .ok (.if_icmp .ne 26, 3) := by decide +kernel
theorem dX6_isLinked_81 : decode cX6_isLinked 81 = .ok (.aload_n 0, 1) := by decide +kernel
theorem dX6_isLinked_82 : decode cX6_isLinked 82 = .ok (.getfield 7, 3) := by decide +kernel
theorem dX6_isLinked_85 : decode cX6_isLinked 85 = .ok (.iload_n 2, 1) := by decide +kernel
theorem dX6_isLinked_86 : decode cX6_isLinked 86 = .ok (.iconst 1, 1) := by decide +kernel
theorem dX6_isLinked_87 : decode cX6_isLinked 87 = .ok (.iadd, 1) := by decide +kernel
theorem dX6_isLinked_88 : decode cX6_isLinked 88 = .ok (.iaload, 1) := by decide +kernel
theorem dX6_isLinked_89 : decode cX6_isLinked 89 = .ok (.aload_n 0, 1) := by decide +kernel
theorem dX6_isLinked_90 : decode cX6_isLinked 90 = .ok (.getfield 7, 3) := by decide +kernel
theorem dX6_isLinked_93 : decode cX6_isLinked 93 = .ok (.iload_n 3, 1) := by decide +kernel
theorem dX6_isLinked_94 : decode cX6_isLinked 94 = .ok (.iconst 1, 1) := by decide +kernel
theorem dX6_isLinked_95 : decode cX6_isLinked 95 = .ok (.iadd, 1) := by decide +kernel
theorem dX6_isLinked_96 : decode cX6_isLinked 96 = .ok (.iaload, 1) := by decide +kernel
theorem dX6_isLinked_97 : decode cX6_isLinked 97 = .ok (.if_icmp .ne 7, 3) := by decide +kernel
theorem dX6_isLinked_100 : decode cX6_isLinked 100 = .ok (.iconst 1, 1) := by decide +kernel
theorem dX6_isLinked_101 : decode cX6_isLinked 101 = .ok (.goto 4, 3) := by decide +kernel
theorem dX6_isLinked_104 : decode cX6_isLinked 104 = .ok (.iconst 0, 1) := by decide +kernel
theorem dX6_isLinked_105 : decode cX6_isLinked 105 = .ok (.ireturn, 1) := by decide +kernel
theorem dX6_runCount_0 : decode cX6_runCount 0 = .ok (.iconst 0, 1) := by decide +kernel
theorem dX6_runCount_1 : decode cX6_runCount 1 = .ok (.istore_n 1, 1) := by decide +kernel
theorem dX6_runCount_2 : decode cX6_runCount 2 = .ok (.iconst 0, 1) := by decide +kernel
theorem dX6_runCount_3 : decode cX6_runCount 3 = .ok (.istore_n 2, 1) := by decide +kernel
theorem dX6_runCount_4 : decode cX6_runCount 4 = .ok (.iload_n 2, 1) := by decide +kernel
theorem dX6_runCount_5 : decode cX6_runCount 5 = .ok (.aload_n 0, 1) := by decide +kernel
theorem dX6_runCount_6 : decode cX6_runCount 6 = .ok (.getfield 7, 3) := by decide +kernel
theorem dX6_runCount_9 : decode cX6_runCount 9 = .ok (.bipush 48, 2) := by decide +kernel
theorem dX6_runCount_11 : decode cX6_runCount 11 = .ok (.iaload, 1) := by decide +kernel
theorem dX6_runCount_12 : decode cX6_runCount 12 = .ok (.if_icmp .ge 27, 3) := by decide +kernel
theorem dX6_runCount_15 : decode cX6_runCount 15 = .ok (.iload_n 1, 1) := by decide +kernel
theorem dX6_runCount_16 : decode cX6_runCount 16 = .ok (.aload_n 0, 1) := by decide +kernel
theorem dX6_runCount_17 : decode cX6_runCount 17 = .ok (.iload_n 2, 1) := by decide +kernel
theorem dX6_runCount_18 : decode cX6_runCount 18 = .ok (.iconst 1, 1) := by decide +kernel
theorem dX6_runCount_19 : decode cX6_runCount 19 = .ok (.isub, 1) := by decide +kernel
theorem dX6_runCount_20 : decode cX6_runCount 20 = .ok (.invokevirtual 101, 3) := by decide +kernel
theorem dX6_runCount_23 : decode cX6_runCount 23 = .ok (.ifCond .eq 7, 3) := by decide +kernel
theorem dX6_runCount_26 : decode cX6_runCount 26 = .ok (.iconst 0, 1) := by decide +kernel
theorem dX6_runCount_27 : decode cX6_runCount 27 = .ok (.goto 4, 3) := by decide +kernel
theorem dX6_runCount_30 : decode cX6_runCount 30 = .ok (.iconst 1, 1) := by decide +kernel
theorem dX6_runCount_31 : decode cX6_runCount 31 = .ok (.iadd, 1) := by decide +kernel
theorem dX6_runCount_32 : decode cX6_runCount 32 = .ok (.istore_n 1, 1) := by decide +kernel
theorem dX6_runCount_33 : decode cX6_runCount 33 = .ok (.iinc 2 1, 3) := by decide +kernel
theorem dX6_runCount_36 : decode cX6_runCount 36 = .ok (.goto (-32), 3) := by decide +kernel
theorem dX6_runCount_39 : decode cX6_runCount 39 = .ok (.iload_n 1, 1) := by decide +kernel
theorem dX6_runCount_40 : decode cX6_runCount 40 = .ok (.ireturn, 1) := by decide +kernel
theorem dX6_runLength_0 : decode cX6_runLength 0 = .ok (.iload_n 1, 1) := by decide +kernel
theorem dX6_runLength_1 : decode cX6_runLength 1 = .ok (.ifCond .ge 5, 3) := by decide +kernel
theorem dX6_runLength_4 : decode cX6_runLength 4 = .ok (.iconst (-1), 1) := by decide +kernel
theorem dX6_runLength_5 : decode cX6_runLength 5 = .ok (.ireturn, 1) := by decide +kernel
theorem dX6_runLength_6 : decode cX6_runLength 6 = .ok (.iconst (-1), 1) := by decide +kernel
theorem dX6_runLength_7 : decode cX6_runLength 7 = .ok (.istore_n 2, 1) := by decide +kernel
theorem dX6_runLength_8 : decode cX6_runLength 8 = .ok (.iconst 0, 1) := by decide +kernel
theorem dX6_runLength_9 : decode cX6_runLength 9 = .ok (.istore_n 3, 1) := by decide +kernel
theorem dX6_runLength_10 : decode cX6_runLength 10 = .ok (.iconst 0, 1) := by decide +kernel
theorem dX6_runLength_11 : decode cX6_runLength 11 = .ok (.istore 4, 2) := by decide +kernel
theorem dX6_runLength_13 : decode cX6_runLength 13 = .ok (.iload 4, 2) := by decide +kernel
theorem dX6_runLength_15 : decode cX6_runLength 15 = .ok (.aload_n 0, 1) := by decide +kernel
theorem dX6_runLength_16 : decode cX6_runLength 16 = .ok (.getfield 7, 3) := by decide +kernel
theorem dX6_runLength_19 : decode cX6_runLength 19 = .ok (.bipush 48, 2) := by decide +kernel
theorem dX6_runLength_21 : decode cX6_runLength 21 = .ok (.iaload, 1) := by decide +kernel
theorem dX6_runLength_22 : decode cX6_runLength 22 = .ok (.if_icmp .ge 41, 3) := by decide +kernel
theorem dX6_runLength_25 : decode cX6_runLength 25 = .ok (.iload_n 2, 1) := by decide +kernel
theorem dX6_runLength_26 : decode cX6_runLength 26 = .ok (.aload_n 0, 1) := by decide +kernel
theorem dX6_runLength_27 : decode cX6_runLength 27 = .ok (.iload 4, 2) := by decide +kernel
theorem dX6_runLength_29 : decode cX6_runLength 29 = .ok (.iconst 1, 1) := by decide +kernel
theorem dX6_runLength_30 : decode cX6_runLength 30 = .ok (.isub, 1) := by decide +kernel
theorem dX6_runLength_31 : decode cX6_runLength 31 = .ok (.invokevirtual 101, 3) := by decide +kernel
theorem dX6_runLength_34 : decode cX6_runLength 34 = .ok (.ifCond .eq 7, 3) := by decide +kernel
theorem dX6_runLength_37 : decode cX6_runLength 37 = .ok (.iconst 0, 1) := by decide +kernel
theorem dX6_runLength_38 : decode cX6_runLength 38 = .ok (.goto 4, 3) := by decide +kernel
theorem dX6_runLength_41 : decode cX6_runLength 41 = .ok (.iconst 1, 1) := by decide +kernel
theorem dX6_runLength_42 : decode cX6_runLength 42 = .ok (.iadd, 1) := by decide +kernel
theorem dX6_runLength_43 : decode cX6_runLength 43 = .ok (.istore_n 2, 1) := by decide +kernel
theorem dX6_runLength_44 : decode cX6_runLength 44 = .ok (.iload_n 3, 1) := by decide +kernel
theorem dX6_runLength_45 : decode cX6_runLength 45 = .ok (.iload_n 2, 1) := by decide +kernel
theorem dX6_runLength_46 : decode cX6_runLength 46 = .ok (.iload_n 1, 1) := by decide +kernel
theorem dX6_runLength_47 : decode cX6_runLength 47 = .ok (.if_icmp .ne 7, 3) := by decide +kernel
theorem dX6_runLength_50 : decode cX6_runLength 50 = .ok (.iconst 1, 1) := by decide +kernel
theorem dX6_runLength_51 : decode cX6_runLength 51 = .ok (.goto 4, 3) := by decide +kernel
theorem dX6_runLength_54 : decode cX6_runLength 54 = .ok (.iconst 0, 1) := by decide +kernel
theorem dX6_runLength_55 : decode cX6_runLength 55 = .ok (.iadd, 1) := by decide +kernel
theorem dX6_runLength_56 : decode cX6_runLength 56 = .ok (.istore_n 3, 1) := by decide +kernel
theorem dX6_runLength_57 : decode cX6_runLength 57 = .ok (.iinc 4 1, 3) := by decide +kernel
theorem dX6_runLength_60 : decode cX6_runLength 60 = .ok (.goto (-47), 3) := by decide +kernel
theorem dX6_runLength_63 : decode cX6_runLength 63 = .ok (.iload_n 3, 1) := by decide +kernel
theorem dX6_runLength_64 : decode cX6_runLength 64 = .ok (.ifCond .ne 8, 3) := by decide +kernel
theorem dX6_runLength_67 : decode cX6_runLength 67 = .ok (.bipush (-3), 2) := by decide +kernel
theorem dX6_runLength_69 : decode cX6_runLength 69 = .ok (.goto 4, 3) := by decide +kernel
theorem dX6_runLength_72 : decode cX6_runLength 72 = .ok (.iload_n 3, 1) := by decide +kernel
theorem dX6_runLength_73 : decode cX6_runLength 73 = .ok (.ireturn, 1) := by decide +kernel
theorem dX6_setPenCost_0 : decode cX6_setPenCost 0 = .ok (.iload_n 1, 1) := by decide +kernel
theorem dX6_setPenCost_1 : decode cX6_setPenCost 1 = .ok (.iconst 0, 1) := by decide +kernel
theorem dX6_setPenCost_2 : decode cX6_setPenCost 2 = .ok (.sipush 500, 3) := by decide +kernel
theorem dX6_setPenCost_5 : decode cX6_setPenCost 5 = .ok (.invokestatic 38, 3) := by decide +kernel
theorem dX6_setPenCost_8 : decode cX6_setPenCost 8 = .ok (.ifCond .ne 5, 3) := by decide +kernel
theorem dX6_setPenCost_11 : decode cX6_setPenCost 11 = .ok (.iconst (-1), 1) := by decide +kernel
theorem dX6_setPenCost_12 : decode cX6_setPenCost 12 = .ok (.ireturn, 1) := by decide +kernel
theorem dX6_setPenCost_13 : decode cX6_setPenCost 13 = .ok (.aload_n 0, 1) := by decide +kernel
theorem dX6_setPenCost_14 : decode cX6_setPenCost 14 = .ok (.getfield 16, 3) := by decide +kernel
theorem dX6_setPenCost_17 : decode cX6_setPenCost 17 = .ok (.istore_n 2, 1) := by decide +kernel
theorem dX6_setPenCost_18 : decode cX6_setPenCost 18 = .ok (.aload_n 0, 1) := by decide +kernel
theorem dX6_setPenCost_19 : decode cX6_setPenCost 19 = .ok (.iload_n 1, 1) := by decide +kernel
theorem dX6_setPenCost_20 : decode cX6_setPenCost 20 = .ok (.putfield 16, 3) := by decide +kernel
theorem dX6_setPenCost_23 : decode cX6_setPenCost 23 = .ok (.iload_n 2, 1) := by decide +kernel
theorem dX6_setPenCost_24 : decode cX6_setPenCost 24 = .ok (.ireturn, 1) := by decide +kernel
theorem dX6_ahead_0 : decode cX6_ahead 0 = .ok (.iload_n 1, 1) := by decide +kernel
theorem dX6_ahead_1 : decode cX6_ahead 1 = .ok (.iconst 1, 1) := by decide +kernel
theorem dX6_ahead_2 : decode cX6_ahead 2 = .ok (.aload_n 0, 1) := by decide +kernel
theorem dX6_ahead_3 : decode cX6_ahead 3 = .ok (.getfield 7, 3) := by decide +kernel
theorem dX6_ahead_6 : decode cX6_ahead 6 = .ok (.bipush 48, 2) := by decide +kernel
theorem dX6_ahead_8 : decode cX6_ahead 8 = .ok (.iaload, 1) := by decide +kernel
theorem dX6_ahead_9 : decode cX6_ahead 9 = .ok (.ishl, 1) := by decide +kernel
theorem dX6_ahead_10 : decode cX6_ahead 10 = .ok (.iconst 1, 1) := by decide +kernel
theorem dX6_ahead_11 : decode cX6_ahead 11 = .ok (.isub, 1) := by decide +kernel
theorem dX6_ahead_12 : decode cX6_ahead 12 = .ok (.if_icmp .ne 7, 3) := by decide +kernel
theorem dX6_ahead_15 : decode cX6_ahead 15 = .ok (.iconst 0, 1) := by decide +kernel
theorem dX6_ahead_16 : decode cX6_ahead 16 = .ok (.goto 5, 3) := by decide +kernel
theorem dX6_ahead_19 : decode cX6_ahead 19 = .ok (.ldc 104, 2) := by decide +kernel
theorem dX6_ahead_21 : decode cX6_ahead 21 = .ok (.istore_n 3, 1) := by decide +kernel
theorem dX6_ahead_22 : decode cX6_ahead 22 = .ok (.iconst 0, 1) := by decide +kernel
theorem dX6_ahead_23 : decode cX6_ahead 23 = .ok (.istore 4, 2) := by decide +kernel
theorem dX6_ahead_25 : decode cX6_ahead 25 = .ok (.iload 4, 2) := by decide +kernel
theorem dX6_ahead_27 : decode cX6_ahead 27 = .ok (.iconst 2, 1) := by decide +kernel
theorem dX6_ahead_28 : decode cX6_ahead 28 = .ok (.aload_n 0, 1) := by decide +kernel
theorem dX6_ahead_29 : decode cX6_ahead 29 = .ok (.getfield 7, 3) := by decide +kernel
theorem dX6_ahead_32 : decode cX6_ahead 32 = .ok (.bipush 48, 2) := by decide +kernel
theorem dX6_ahead_34 : decode cX6_ahead 34 = .ok (.iaload, 1) := by decide +kernel
theorem dX6_ahead_35 : decode cX6_ahead 35 = .ok (.imul, 1) := by decide +kernel
theorem dX6_ahead_36 : decode cX6_ahead 36 = .ok (.if_icmp .ge 62, 3) := by decide +kernel
theorem dX6_ahead_39 : decode cX6_ahead 39 = .ok (.iload_n 1, 1) := by decide +kernel
theorem dX6_ahead_40 : decode cX6_ahead 40 = .ok (.iload 4, 2) := by decide +kernel
theorem dX6_ahead_42 : decode cX6_ahead 42 = .ok (.iconst 2, 1) := by decide +kernel
theorem dX6_ahead_43 : decode cX6_ahead 43 = .ok (.idiv, 1) := by decide +kernel
theorem dX6_ahead_44 : decode cX6_ahead 44 = .ok (.ishr, 1) := by decide +kernel
theorem dX6_ahead_45 : decode cX6_ahead 45 = .ok (.iconst 1, 1) := by decide +kernel
theorem dX6_ahead_46 : decode cX6_ahead 46 = .ok (.iand, 1) := by decide +kernel
theorem dX6_ahead_47 : decode cX6_ahead 47 = .ok (.ifCond .ne 45, 3) := by decide +kernel
theorem dX6_ahead_50 : decode cX6_ahead 50 = .ok (.aload_n 0, 1) := by decide +kernel
theorem dX6_ahead_51 : decode cX6_ahead 51 = .ok (.iload_n 2, 1) := by decide +kernel
theorem dX6_ahead_52 : decode cX6_ahead 52 = .ok (.iload 4, 2) := by decide +kernel
theorem dX6_ahead_54 : decode cX6_ahead 54 = .ok (.invokevirtual 98, 3) := by decide +kernel
theorem dX6_ahead_57 : decode cX6_ahead 57 = .ok (.aload_n 0, 1) := by decide +kernel
theorem dX6_ahead_58 : decode cX6_ahead 58 = .ok (.getfield 26, 3) := by decide +kernel
theorem dX6_ahead_61 : decode cX6_ahead 61 = .ok (.bipush 16, 2) := by decide +kernel
theorem dX6_ahead_63 : decode cX6_ahead 63 = .ok (.iload_n 1, 1) := by decide +kernel
theorem dX6_ahead_64 : decode cX6_ahead 64 = .ok (.iconst 1, 1) := by decide +kernel
theorem dX6_ahead_65 : decode cX6_ahead 65 = .ok (.iload 4, 2) := by decide +kernel
theorem dX6_ahead_67 : decode cX6_ahead 67 = .ok (.iconst 2, 1) := by decide +kernel
theorem dX6_ahead_68 : decode cX6_ahead 68 = .ok (.idiv, 1) := by decide +kernel
theorem dX6_ahead_69 : decode cX6_ahead 69 = .ok (.ishl, 1) := by decide +kernel
theorem dX6_ahead_70 : decode cX6_ahead 70 = .ok (.ior, 1) := by decide +kernel
theorem dX6_ahead_71 : decode cX6_ahead 71 = .ok (.imul, 1) := by decide +kernel
theorem dX6_ahead_72 : decode cX6_ahead 72 = .ok (.iload 4, 2) := by decide +kernel
theorem dX6_ahead_74 : decode cX6_ahead 74 = .ok (.iadd, 1) := by decide +kernel
theorem dX6_ahead_75 : decode cX6_ahead 75 = .ok (.iaload, 1) := by decide +kernel
theorem dX6_ahead_76 : decode cX6_ahead 76 = .ok (.iadd, 1) := by decide +kernel
theorem dX6_ahead_77 : decode cX6_ahead 77 = .ok (.istore 5, 2) := by decide +kernel
theorem dX6_ahead_79 : decode cX6_ahead 79 = .ok (.iload 5, 2) := by decide +kernel
theorem dX6_ahead_81 : decode cX6_ahead 81 = .ok (.iload_n 3, 1) := by decide +kernel
theorem dX6_ahead_82 : decode cX6_ahead 82 = .ok (.if_icmp .ge 8, 3) := by decide +kernel
theorem dX6_ahead_85 : decode cX6_ahead 85 = .ok (.iload 5, 2) := by decide +kernel
theorem dX6_ahead_87 : decode cX6_ahead 87 = .ok (.goto 4, 3) := by decide +kernel
theorem dX6_ahead_90 : decode cX6_ahead 90 = .ok (.iload_n 3, 1) := by decide +kernel
theorem dX6_ahead_91 : decode cX6_ahead 91 = .ok (.istore_n 3, 1) := by decide +kernel
theorem dX6_ahead_92 : decode cX6_ahead 92 = .ok (.iinc 4 1, 3) := by decide +kernel
theorem dX6_ahead_95 : decode cX6_ahead 95 = .ok (.goto (-70), 3) := by decide +kernel
theorem dX6_ahead_98 : decode cX6_ahead 98 = .ok (.iload_n 3, 1) := by decide +kernel
theorem dX6_ahead_99 : decode cX6_ahead 99 = .ok (.ireturn, 1) := by decide +kernel
theorem dX6_finds_0 : decode cX6_finds 0 = .ok (.iconst 1, 1) := by decide +kernel
theorem dX6_finds_1 : decode cX6_finds 1 = .ok (.aload_n 0, 1) := by decide +kernel
theorem dX6_finds_2 : decode cX6_finds 2 = .ok (.getfield 7, 3) := by decide +kernel
theorem dX6_finds_5 : decode cX6_finds 5 = .ok (.bipush 48, 2) := by decide +kernel
theorem dX6_finds_7 : decode cX6_finds 7 = .ok (.iaload, 1) := by decide +kernel
theorem dX6_finds_8 : decode cX6_finds 8 = .ok (.ishl, 1) := by decide +kernel
theorem dX6_finds_9 : decode cX6_finds 9 = .ok (.iconst 1, 1) := by decide +kernel
theorem dX6_finds_10 : decode cX6_finds 10 = .ok (.isub, 1) := by decide +kernel
theorem dX6_finds_11 : decode cX6_finds 11 = .ok (.istore_n 1, 1) := by decide +kernel
theorem dX6_finds_12 : decode cX6_finds 12 = .ok (.iload_n 1, 1) := by decide +kernel
theorem dX6_finds_13 : decode cX6_finds 13 = .ok (.ifCond .le 58, 3) := by decide +kernel
theorem dX6_finds_16 : decode cX6_finds 16 = .ok (.iconst 0, 1) := by decide +kernel
theorem dX6_finds_17 : decode cX6_finds 17 = .ok (.istore_n 2, 1) := by decide +kernel
theorem dX6_finds_18 : decode cX6_finds 18 = .ok (.iload_n 2, 1) := by decide +kernel
theorem dX6_finds_19 : decode cX6_finds 19 = .ok (.iconst 2, 1) := by decide +kernel
theorem dX6_finds_20 : decode cX6_finds 20 = .ok (.aload_n 0, 1) := by decide +kernel
theorem dX6_finds_21 : decode cX6_finds 21 = .ok (.getfield 7, 3) := by decide +kernel
theorem dX6_finds_24 : decode cX6_finds 24 = .ok (.bipush 48, 2) := by decide +kernel
theorem dX6_finds_26 : decode cX6_finds 26 = .ok (.iaload, 1) := by decide +kernel
theorem dX6_finds_27 : decode cX6_finds 27 = .ok (.imul, 1) := by decide +kernel
theorem dX6_finds_28 : decode cX6_finds 28 = .ok (.if_icmp .ge 37, 3) := by decide +kernel
theorem dX6_finds_31 : decode cX6_finds 31 = .ok (.iload_n 1, 1) := by decide +kernel
theorem dX6_finds_32 : decode cX6_finds 32 = .ok (.iload_n 2, 1) := by decide +kernel
theorem dX6_finds_33 : decode cX6_finds 33 = .ok (.iconst 2, 1) := by decide +kernel
theorem dX6_finds_34 : decode cX6_finds 34 = .ok (.idiv, 1) := by decide +kernel
theorem dX6_finds_35 : decode cX6_finds 35 = .ok (.ishr, 1) := by decide +kernel
theorem dX6_finds_36 : decode cX6_finds 36 = .ok (.iconst 1, 1) := by decide +kernel
theorem dX6_finds_37 : decode cX6_finds 37 = .ok (.iand, 1) := by decide +kernel
theorem dX6_finds_38 : decode cX6_finds 38 = .ok (.iconst 1, 1) := by decide +kernel
theorem dX6_finds_39 : decode cX6_finds 39 = .ok (.if_icmp .ne 20, 3) := by decide +kernel
theorem dX6_finds_42 : decode cX6_finds 42 = .ok (.aload_n 0, 1) := by decide +kernel
theorem dX6_finds_43 : decode cX6_finds 43 = .ok (.getfield 26, 3) := by decide +kernel
theorem dX6_finds_46 : decode cX6_finds 46 = .ok (.bipush 16, 2) := by decide +kernel
theorem dX6_finds_48 : decode cX6_finds 48 = .ok (.iload_n 1, 1) := by decide +kernel
theorem dX6_finds_49 : decode cX6_finds 49 = .ok (.imul, 1) := by decide +kernel
theorem dX6_finds_50 : decode cX6_finds 50 = .ok (.iload_n 2, 1) := by decide +kernel
theorem dX6_finds_51 : decode cX6_finds 51 = .ok (.iadd, 1) := by decide +kernel
theorem dX6_finds_52 : decode cX6_finds 52 = .ok (.aload_n 0, 1) := by decide +kernel
theorem dX6_finds_53 : decode cX6_finds 53 = .ok (.iload_n 1, 1) := by decide +kernel
theorem dX6_finds_54 : decode cX6_finds 54 = .ok (.iload_n 2, 1) := by decide +kernel
theorem dX6_finds_55 : decode cX6_finds 55 = .ok (.invokevirtual 105, 3) := by decide +kernel
theorem dX6_finds_58 : decode cX6_finds 58 = .ok (.iastore, 1) := by decide +kernel
theorem dX6_finds_59 : decode cX6_finds 59 = .ok (.iinc 2 1, 3) := by decide +kernel
theorem dX6_finds_62 : decode cX6_finds 62 = .ok (.goto (-44), 3) := by decide +kernel
theorem dX6_finds_65 : decode cX6_finds 65 = .ok (.iinc 1 (-1), 3) := by decide +kernel
theorem dX6_finds_68 : decode cX6_finds 68 = .ok (.goto (-56), 3) := by decide +kernel
theorem dX6_finds_71 : decode cX6_finds 71 = .ok (.aload_n 0, 1) := by decide +kernel
theorem dX6_finds_72 : decode cX6_finds 72 = .ok (.iconst 0, 1) := by decide +kernel
theorem dX6_finds_73 : decode cX6_finds 73 = .ok (.iconst (-1), 1) := by decide +kernel
theorem dX6_finds_74 : decode cX6_finds 74 = .ok (.invokevirtual 105, 3) := by decide +kernel
theorem dX6_finds_77 : decode cX6_finds 77 = .ok (.istore_n 1, 1) := by decide +kernel
theorem dX6_finds_78 : decode cX6_finds 78 = .ok (.iconst 0, 1) := by decide +kernel
theorem dX6_finds_79 : decode cX6_finds 79 = .ok (.istore_n 2, 1) := by decide +kernel
theorem dX6_finds_80 : decode cX6_finds 80 = .ok (.iconst (-1), 1) := by decide +kernel
theorem dX6_finds_81 : decode cX6_finds 81 = .ok (.istore_n 3, 1) := by decide +kernel
theorem dX6_finds_82 : decode cX6_finds 82 = .ok (.iconst 0, 1) := by decide +kernel
theorem dX6_finds_83 : decode cX6_finds 83 = .ok (.istore 4, 2) := by decide +kernel
theorem dX6_finds_85 : decode cX6_finds 85 = .ok (.iload 4, 2) := by decide +kernel
theorem dX6_finds_87 : decode cX6_finds 87 = .ok (.aload_n 0, 1) := by decide +kernel
theorem dX6_finds_88 : decode cX6_finds 88 = .ok (.getfield 7, 3) := by decide +kernel
theorem dX6_finds_91 : decode cX6_finds 91 = .ok (.bipush 48, 2) := by decide +kernel
theorem dX6_finds_93 : decode cX6_finds 93 = .ok (.iaload, 1) := by decide +kernel
theorem dX6_finds_94 : decode cX6_finds 94 = .ok (.if_icmp .ge 91, 3) := by decide +kernel
theorem dX6_finds_97 : decode cX6_finds 97 = .ok (.aload_n 0, 1) := by decide +kernel
theorem dX6_finds_98 : decode cX6_finds 98 = .ok (.iload_n 2, 1) := by decide +kernel
theorem dX6_finds_99 : decode cX6_finds 99 = .ok (.iload_n 3, 1) := by decide +kernel
theorem dX6_finds_100 : decode cX6_finds 100 = .ok (.invokevirtual 105, 3) := by decide +kernel
theorem dX6_finds_103 : decode cX6_finds 103 = .ok (.istore 5, 2) := by decide +kernel
theorem dX6_finds_105 : decode cX6_finds 105 = .ok (.iconst 0, 1) := by decide +kernel
theorem dX6_finds_106 : decode cX6_finds 106 = .ok (.istore 6, 2) := by decide +kernel
theorem dX6_finds_108 : decode cX6_finds 108 = .ok (.iload_n 2, 1) := by decide +kernel
theorem dX6_finds_109 : decode cX6_finds 109 = .ok (.iload 6, 2) := by decide +kernel
theorem dX6_finds_111 : decode cX6_finds 111 = .ok (.iconst 2, 1) := by decide +kernel
theorem dX6_finds_112 : decode cX6_finds 112 = .ok (.idiv, 1) := by decide +kernel
theorem dX6_finds_113 : decode cX6_finds 113 = .ok (.ishr, 1) := by decide +kernel
theorem dX6_finds_114 : decode cX6_finds 114 = .ok (.iconst 1, 1) := by decide +kernel
theorem dX6_finds_115 : decode cX6_finds 115 = .ok (.iand, 1) := by decide +kernel
theorem dX6_finds_116 : decode cX6_finds 116 = .ok (.iconst 1, 1) := by decide +kernel
theorem dX6_finds_117 : decode cX6_finds 117 = .ok (.if_icmp .eq 35, 3) := by decide +kernel
theorem dX6_finds_120 : decode cX6_finds 120 = .ok (.aload_n 0, 1) := by decide +kernel
theorem dX6_finds_121 : decode cX6_finds 121 = .ok (.iload_n 3, 1) := by decide +kernel
theorem dX6_finds_122 : decode cX6_finds 122 = .ok (.iload 6, 2) := by decide +kernel
theorem dX6_finds_124 : decode cX6_finds 124 = .ok (.invokevirtual 98, 3) := by decide +kernel
theorem dX6_finds_127 : decode cX6_finds 127 = .ok (.aload_n 0, 1) := by decide +kernel
theorem dX6_finds_128 : decode cX6_finds 128 = .ok (.getfield 26, 3) := by decide +kernel
theorem dX6_finds_131 : decode cX6_finds 131 = .ok (.bipush 16, 2) := by decide +kernel
theorem dX6_finds_133 : decode cX6_finds 133 = .ok (.iload_n 2, 1) := by decide +kernel
theorem dX6_finds_134 : decode cX6_finds 134 = .ok (.iconst 1, 1) := by decide +kernel
theorem dX6_finds_135 : decode cX6_finds 135 = .ok (.iload 6, 2) := by decide +kernel
theorem dX6_finds_137 : decode cX6_finds 137 = .ok (.iconst 2, 1) := by decide +kernel
theorem dX6_finds_138 : decode cX6_finds 138 = .ok (.idiv, 1) := by decide +kernel
theorem dX6_finds_139 : decode cX6_finds 139 = .ok (.ishl, 1) := by decide +kernel
theorem dX6_finds_140 : decode cX6_finds 140 = .ok (.ior, 1) := by decide +kernel
theorem dX6_finds_141 : decode cX6_finds 141 = .ok (.imul, 1) := by decide +kernel
theorem dX6_finds_142 : decode cX6_finds 142 = .ok (.iload 6, 2) := by decide +kernel
theorem dX6_finds_144 : decode cX6_finds 144 = .ok (.iadd, 1) := by decide +kernel
theorem dX6_finds_145 : decode cX6_finds 145 = .ok (.iaload, 1) := by decide +kernel
theorem dX6_finds_146 : decode cX6_finds 146 = .ok (.iadd, 1) := by decide +kernel
theorem dX6_finds_147 : decode cX6_finds 147 = .ok (.iload 5, 2) := by decide +kernel
theorem dX6_finds_149 : decode cX6_finds 149 = .ok (.if_icmp .eq 9, 3) := by decide +kernel
theorem dX6_finds_152 : decode cX6_finds 152 = .ok (.iinc 6 1, 3) := by decide +kernel
theorem dX6_finds_155 : decode cX6_finds 155 = .ok (.goto (-47), 3) := by decide +kernel
theorem dX6_finds_158 : decode cX6_finds 158 = .ok (.aload_n 0, 1) := by decide +kernel
theorem dX6_finds_159 : decode cX6_finds 159 = .ok (.getfield 29, 3) := by decide +kernel
theorem dX6_finds_162 : decode cX6_finds 162 = .ok (.iload 4, 2) := by decide +kernel
theorem dX6_finds_164 : decode cX6_finds 164 = .ok (.iload 6, 2) := by decide +kernel
theorem dX6_finds_166 : decode cX6_finds 166 = .ok (.iastore, 1) := by decide +kernel
theorem dX6_finds_167 : decode cX6_finds 167 = .ok (.iload_n 2, 1) := by decide +kernel
theorem dX6_finds_168 : decode cX6_finds 168 = .ok (.iconst 1, 1) := by decide +kernel
theorem dX6_finds_169 : decode cX6_finds 169 = .ok (.iload 6, 2) := by decide +kernel
theorem dX6_finds_171 : decode cX6_finds 171 = .ok (.iconst 2, 1) := by decide +kernel
theorem dX6_finds_172 : decode cX6_finds 172 = .ok (.idiv, 1) := by decide +kernel
theorem dX6_finds_173 : decode cX6_finds 173 = .ok (.ishl, 1) := by decide +kernel
theorem dX6_finds_174 : decode cX6_finds 174 = .ok (.ior, 1) := by decide +kernel
theorem dX6_finds_175 : decode cX6_finds 175 = .ok (.istore_n 2, 1) := by decide +kernel
theorem dX6_finds_176 : decode cX6_finds 176 = .ok (.iload 6, 2) := by decide +kernel
theorem dX6_finds_178 : decode cX6_finds 178 = .ok (.istore_n 3, 1) := by decide +kernel
theorem dX6_finds_179 : decode cX6_finds 179 = .ok (.iinc 4 1, 3) := by decide +kernel
theorem dX6_finds_182 : decode cX6_finds 182 = .ok (.goto (-97), 3) := by decide +kernel
theorem dX6_finds_185 : decode cX6_finds 185 = .ok (.iload_n 1, 1) := by decide +kernel
theorem dX6_finds_186 : decode cX6_finds 186 = .ok (.ireturn, 1) := by decide +kernel
theorem dX6_bestCost_0 : decode cX6_bestCost 0 = .ok (.aload_n 0, 1) := by decide +kernel
theorem dX6_bestCost_1 : decode cX6_bestCost 1 = .ok (.invokevirtual 108, 3) := by decide +kernel
theorem dX6_bestCost_4 : decode cX6_bestCost 4 = .ok (.ireturn, 1) := by decide +kernel
theorem dX6_bestAt_0 : decode cX6_bestAt 0 = .ok (.iload_n 1, 1) := by decide +kernel
theorem dX6_bestAt_1 : decode cX6_bestAt 1 = .ok (.ifCond .ge 5, 3) := by decide +kernel
theorem dX6_bestAt_4 : decode cX6_bestAt 4 = .ok (.iconst (-1), 1) := by decide +kernel
theorem dX6_bestAt_5 : decode cX6_bestAt 5 = .ok (.ireturn, 1) := by decide +kernel
theorem dX6_bestAt_6 : decode cX6_bestAt 6 = .ok (.aload_n 0, 1) := by decide +kernel
theorem dX6_bestAt_7 : decode cX6_bestAt 7 = .ok (.invokevirtual 108, 3) := by decide +kernel
theorem dX6_bestAt_10 : decode cX6_bestAt 10 = .ok (.pop, 1) := by decide +kernel
theorem dX6_bestAt_11 : decode cX6_bestAt 11 = .ok (.aload_n 0, 1) := by decide +kernel
theorem dX6_bestAt_12 : decode cX6_bestAt 12 = .ok (.iload_n 1, 1) := by decide +kernel
theorem dX6_bestAt_13 : decode cX6_bestAt 13 = .ok (.invokevirtual 83, 3) := by decide +kernel
theorem dX6_bestAt_16 : decode cX6_bestAt 16 = .ok (.ifCond .eq 12, 3) := by decide +kernel
theorem dX6_bestAt_19 : decode cX6_bestAt 19 = .ok (.aload_n 0, 1) := by decide +kernel
theorem dX6_bestAt_20 : decode cX6_bestAt 20 = .ok (.getfield 29, 3) := by decide +kernel
theorem dX6_bestAt_23 : decode cX6_bestAt 23 = .ok (.iload_n 1, 1) := by decide +kernel
theorem dX6_bestAt_24 : decode cX6_bestAt 24 = .ok (.iaload, 1) := by decide +kernel
theorem dX6_bestAt_25 : decode cX6_bestAt 25 = .ok (.goto 5, 3) := by decide +kernel
theorem dX6_bestAt_28 : decode cX6_bestAt 28 = .ok (.bipush (-3), 2) := by decide +kernel
theorem dX6_bestAt_30 : decode cX6_bestAt 30 = .ok (.ireturn, 1) := by decide +kernel
theorem dX6_adoptBest_0 : decode cX6_adoptBest 0 = .ok (.aload_n 0, 1) := by decide +kernel
theorem dX6_adoptBest_1 : decode cX6_adoptBest 1 = .ok (.invokevirtual 45, 3) := by decide +kernel
theorem dX6_adoptBest_4 : decode cX6_adoptBest 4 = .ok (.aload_n 0, 1) := by decide +kernel
theorem dX6_adoptBest_5 : decode cX6_adoptBest 5 = .ok (.invokevirtual 108, 3) := by decide +kernel
theorem dX6_adoptBest_8 : decode cX6_adoptBest 8 = .ok (.istore_n 1, 1) := by decide +kernel
theorem dX6_adoptBest_9 : decode cX6_adoptBest 9 = .ok (.iconst 0, 1) := by decide +kernel
theorem dX6_adoptBest_10 : decode cX6_adoptBest 10 = .ok (.istore_n 2, 1) := by decide +kernel
theorem dX6_adoptBest_11 : decode cX6_adoptBest 11 = .ok (.iload_n 2, 1) := by decide +kernel
theorem dX6_adoptBest_12 : decode cX6_adoptBest 12 = .ok (.aload_n 0, 1) := by decide +kernel
theorem dX6_adoptBest_13 : decode cX6_adoptBest 13 = .ok (.getfield 7, 3) := by decide +kernel
theorem dX6_adoptBest_16 : decode cX6_adoptBest 16 = .ok (.bipush 48, 2) := by decide +kernel
theorem dX6_adoptBest_18 : decode cX6_adoptBest 18 = .ok (.iaload, 1) := by decide +kernel
theorem dX6_adoptBest_19 : decode cX6_adoptBest 19 = .ok (.if_icmp .ge 24, 3) := by decide +kernel
theorem dX6_adoptBest_22 : decode cX6_adoptBest 22 = .ok (.aload_n 0, 1) := by decide +kernel
theorem dX6_adoptBest_23 : decode cX6_adoptBest 23 = .ok (.getfield 7, 3) := by decide +kernel
theorem dX6_adoptBest_26 : decode cX6_adoptBest 26 = .ok (.bipush 40, 2) := by decide +kernel
theorem dX6_adoptBest_28 : decode cX6_adoptBest 28 = .ok (.iload_n 2, 1) := by decide +kernel
theorem dX6_adoptBest_29 : decode cX6_adoptBest 29 = .ok (.iadd, 1) := by decide +kernel
theorem dX6_adoptBest_30 : decode cX6_adoptBest 30 = .ok (.aload_n 0, 1) := by decide +kernel
theorem dX6_adoptBest_31 : decode cX6_adoptBest 31 = .ok (.getfield 29, 3) := by decide +kernel
theorem dX6_adoptBest_34 : decode cX6_adoptBest 34 = .ok (.iload_n 2, 1) := by decide +kernel
theorem dX6_adoptBest_35 : decode cX6_adoptBest 35 = .ok (.iaload, 1) := by decide +kernel
theorem dX6_adoptBest_36 : decode cX6_adoptBest 36 = .ok (.iastore, 1) := by decide +kernel
theorem dX6_adoptBest_37 : decode cX6_adoptBest 37 = .ok (.iinc 2 1, 3) := by decide +kernel
theorem dX6_adoptBest_40 : decode cX6_adoptBest 40 = .ok (.goto (-29), 3) := by decide +kernel
theorem dX6_adoptBest_43 : decode cX6_adoptBest 43 = .ok (.iload_n 1, 1) := by decide +kernel
theorem dX6_adoptBest_44 : decode cX6_adoptBest 44 = .ok (.ireturn, 1) := by decide +kernel
theorem dX6_adoptNearest_0 : decode cX6_adoptNearest 0 = .ok (.aload_n 0, 1) := by decide +kernel
theorem dX6_adoptNearest_1 : decode cX6_adoptNearest 1 = .ok (.invokevirtual 45, 3) := by decide +kernel
theorem dX6_adoptNearest_4 : decode cX6_adoptNearest 4 = .ok (.iconst 0, 1) := by decide +kernel
theorem dX6_adoptNearest_5 : decode cX6_adoptNearest 5 = .ok (.istore_n 1, 1) := by decide +kernel
theorem dX6_adoptNearest_6 : decode cX6_adoptNearest 6 = .ok (.iconst (-1), 1) := by decide +kernel
theorem dX6_adoptNearest_7 : decode cX6_adoptNearest 7 = .ok (.istore_n 2, 1) := by decide +kernel
theorem dX6_adoptNearest_8 : decode cX6_adoptNearest 8 = .ok (.iconst 0, 1) := by decide +kernel
theorem dX6_adoptNearest_9 : decode cX6_adoptNearest 9 = .ok (.istore_n 3, 1) := by decide +kernel
theorem dX6_adoptNearest_10 : decode cX6_adoptNearest 10 = .ok (.iconst 0, 1) := by decide +kernel
theorem dX6_adoptNearest_11 : decode cX6_adoptNearest 11 = .ok (.istore 4, 2) := by decide +kernel
theorem dX6_adoptNearest_13 : decode cX6_adoptNearest 13 = .ok (.iload 4, 2) := by decide +kernel
theorem dX6_adoptNearest_15 : decode cX6_adoptNearest 15 = .ok (.aload_n 0, 1) := by decide +kernel
theorem dX6_adoptNearest_16 : decode cX6_adoptNearest 16 = .ok (.getfield 7, 3) := by decide +kernel
theorem dX6_adoptNearest_19 : decode cX6_adoptNearest 19 = .ok (.bipush 48, 2) := by decide +kernel
theorem dX6_adoptNearest_21 : decode cX6_adoptNearest 21 = .ok (.iaload, 1) := by decide +kernel
theorem dX6_adoptNearest_22 : decode cX6_adoptNearest 22 = .ok (.if_icmp .ge 104, 3) := by decide +kernel
theorem dX6_adoptNearest_25 : decode cX6_adoptNearest 25 = .ok (.iconst (-1), 1) := by decide +kernel
theorem dX6_adoptNearest_26 : decode cX6_adoptNearest 26 = .ok (.istore 5, 2) := by decide +kernel
theorem dX6_adoptNearest_28 : decode cX6_adoptNearest 28 = .ok (.ldc 104, 2) := by decide +kernel
theorem dX6_adoptNearest_30 : decode cX6_adoptNearest 30 = .ok (.istore 6, 2) := by decide +kernel
theorem dX6_adoptNearest_32 : decode cX6_adoptNearest 32 = .ok (.iconst 0, 1) := by decide +kernel
theorem dX6_adoptNearest_33 : decode cX6_adoptNearest 33 = .ok (.istore 7, 2) := by decide +kernel
theorem dX6_adoptNearest_35 : decode cX6_adoptNearest 35 = .ok (.iload 7, 2) := by decide +kernel
theorem dX6_adoptNearest_37 : decode cX6_adoptNearest 37 = .ok (.iconst 2, 1) := by decide +kernel
theorem dX6_adoptNearest_38 : decode cX6_adoptNearest 38 = .ok (.aload_n 0, 1) := by decide +kernel
theorem dX6_adoptNearest_39 : decode cX6_adoptNearest 39 = .ok (.getfield 7, 3) := by decide +kernel
theorem dX6_adoptNearest_42 : decode cX6_adoptNearest 42 = .ok (.bipush 48, 2) := by decide +kernel
theorem dX6_adoptNearest_44 : decode cX6_adoptNearest 44 = .ok (.iaload, 1) := by decide +kernel
theorem dX6_adoptNearest_45 : decode cX6_adoptNearest 45 = .ok (.imul, 1) := by decide +kernel
theorem dX6_adoptNearest_46 : decode cX6_adoptNearest 46 = .ok (.if_icmp .ge 45, 3) := by decide +kernel
theorem dX6_adoptNearest_49 : decode cX6_adoptNearest 49 = .ok (.iload_n 1, 1) := by decide +kernel
theorem dX6_adoptNearest_50 : decode cX6_adoptNearest 50 = .ok (.iload 7, 2) := by decide +kernel
theorem dX6_adoptNearest_52 : decode cX6_adoptNearest 52 = .ok (.iconst 2, 1) := by decide +kernel
theorem dX6_adoptNearest_53 : decode cX6_adoptNearest 53 = .ok (.idiv, 1) := by decide +kernel
theorem dX6_adoptNearest_54 : decode cX6_adoptNearest 54 = .ok (.ishr, 1) := by decide +kernel
theorem dX6_adoptNearest_55 : decode cX6_adoptNearest 55 = .ok (.iconst 1, 1) := by decide +kernel
theorem dX6_adoptNearest_56 : decode cX6_adoptNearest 56 = .ok (.iand, 1) := by decide +kernel
theorem dX6_adoptNearest_57 : decode cX6_adoptNearest 57 = .ok (.ifCond .ne 28, 3) := by decide +kernel
theorem dX6_adoptNearest_60 : decode cX6_adoptNearest 60 = .ok (.aload_n 0, 1) := by decide +kernel
theorem dX6_adoptNearest_61 : decode cX6_adoptNearest 61 = .ok (.iload_n 2, 1) := by decide +kernel
theorem dX6_adoptNearest_62 : decode cX6_adoptNearest 62 = .ok (.iload 7, 2) := by decide +kernel
theorem dX6_adoptNearest_64 : decode cX6_adoptNearest 64 = .ok (.invokevirtual 98, 3) := by decide +kernel
theorem dX6_adoptNearest_67 : decode cX6_adoptNearest 67 = .ok (.iload 6, 2) := by decide +kernel
theorem dX6_adoptNearest_69 : decode cX6_adoptNearest 69 = .ok (.if_icmp .ge 16, 3) := by decide +kernel
theorem dX6_adoptNearest_72 : decode cX6_adoptNearest 72 = .ok (.iload 7, 2) := by decide +kernel
theorem dX6_adoptNearest_74 : decode cX6_adoptNearest 74 = .ok (.istore 5, 2) := by decide +kernel
theorem dX6_adoptNearest_76 : decode cX6_adoptNearest 76 = .ok (.aload_n 0, 1) := by decide +kernel
theorem dX6_adoptNearest_77 : decode cX6_adoptNearest 77 = .ok (.iload_n 2, 1) := by decide +kernel
theorem dX6_adoptNearest_78 : decode cX6_adoptNearest 78 = .ok (.iload 7, 2) := by decide +kernel
theorem dX6_adoptNearest_80 : decode cX6_adoptNearest 80 = .ok (.invokevirtual 98, 3) := by decide +kernel
theorem dX6_adoptNearest_83 : decode cX6_adoptNearest 83 = .ok (.istore 6, 2) := by decide +kernel
theorem dX6_adoptNearest_85 : decode cX6_adoptNearest 85 = .ok (.iinc 7 1, 3) := by decide +kernel
theorem dX6_adoptNearest_88 : decode cX6_adoptNearest 88 = .ok (.goto (-53), 3) := by decide +kernel
theorem dX6_adoptNearest_91 : decode cX6_adoptNearest 91 = .ok (.aload_n 0, 1) := by decide +kernel
theorem dX6_adoptNearest_92 : decode cX6_adoptNearest 92 = .ok (.getfield 7, 3) := by decide +kernel
theorem dX6_adoptNearest_95 : decode cX6_adoptNearest 95 = .ok (.bipush 40, 2) := by decide +kernel
theorem dX6_adoptNearest_97 : decode cX6_adoptNearest 97 = .ok (.iload 4, 2) := by decide +kernel
theorem dX6_adoptNearest_99 : decode cX6_adoptNearest 99 = .ok (.iadd, 1) := by decide +kernel
theorem dX6_adoptNearest_100 : decode cX6_adoptNearest 100 = .ok (.iload 5, 2) := by decide +kernel
theorem dX6_adoptNearest_102 : decode cX6_adoptNearest 102 = .ok (.iastore, 1) := by decide +kernel
theorem dX6_adoptNearest_103 : decode cX6_adoptNearest 103 = .ok (.iload_n 1, 1) := by decide +kernel
theorem dX6_adoptNearest_104 : decode cX6_adoptNearest 104 = .ok (.iconst 1, 1) := by decide +kernel
theorem dX6_adoptNearest_105 : decode cX6_adoptNearest 105 = .ok (.iload 5, 2) := by decide +kernel
theorem dX6_adoptNearest_107 : decode cX6_adoptNearest 107 = .ok (.iconst 2, 1) := by decide +kernel
theorem dX6_adoptNearest_108 : decode cX6_adoptNearest 108 = .ok (.idiv, 1) := by decide +kernel
theorem dX6_adoptNearest_109 : decode cX6_adoptNearest 109 = .ok (.ishl, 1) := by decide +kernel
theorem dX6_adoptNearest_110 : decode cX6_adoptNearest 110 = .ok (.ior, 1) := by decide +kernel
theorem dX6_adoptNearest_111 : decode cX6_adoptNearest 111 = .ok (.istore_n 1, 1) := by decide +kernel
theorem dX6_adoptNearest_112 : decode cX6_adoptNearest 112 = .ok (.iload 5, 2) := by decide +kernel
theorem dX6_adoptNearest_114 : decode cX6_adoptNearest 114 = .ok (.istore_n 2, 1) := by decide +kernel
theorem dX6_adoptNearest_115 : decode cX6_adoptNearest 115 = .ok (.iload_n 3, 1) := by decide +kernel
theorem dX6_adoptNearest_116 : decode cX6_adoptNearest 116 = .ok (.iload 6, 2) := by decide +kernel
theorem dX6_adoptNearest_118 : decode cX6_adoptNearest 118 = .ok (.iadd, 1) := by decide +kernel
theorem dX6_adoptNearest_119 : decode cX6_adoptNearest 119 = .ok (.istore_n 3, 1) := by decide +kernel
theorem dX6_adoptNearest_120 : decode cX6_adoptNearest 120 = .ok (.iinc 4 1, 3) := by decide +kernel
theorem dX6_adoptNearest_123 : decode cX6_adoptNearest 123 = .ok (.goto (-110), 3) := by decide +kernel
theorem dX6_adoptNearest_126 : decode cX6_adoptNearest 126 = .ok (.iload_n 3, 1) := by decide +kernel
theorem dX6_adoptNearest_127 : decode cX6_adoptNearest 127 = .ok (.ireturn, 1) := by decide +kernel
theorem dX6_setSquareLimit_0 : decode cX6_setSquareLimit 0 = .ok (.iload_n 1, 1) := by decide +kernel
theorem dX6_setSquareLimit_1 : decode cX6_setSquareLimit 1 = .ok (.iconst 1, 1) := by decide +kernel
theorem dX6_setSquareLimit_2 : decode cX6_setSquareLimit 2 = .ok (.sipush 9999, 3) := by decide +kernel
theorem dX6_setSquareLimit_5 : decode cX6_setSquareLimit 5 = .ok (.invokestatic 38, 3) := by decide +kernel
theorem dX6_setSquareLimit_8 : decode cX6_setSquareLimit 8 = .ok (.ifCond .ne 5, 3) := by decide +kernel
theorem dX6_setSquareLimit_11 : decode cX6_setSquareLimit 11 = .ok (.iconst (-1), 1) := by decide +kernel
theorem dX6_setSquareLimit_12 : decode cX6_setSquareLimit 12 = .ok (.ireturn, 1) := by decide +kernel
theorem dX6_setSquareLimit_13 : decode cX6_setSquareLimit 13 = .ok (.aload_n 0, 1) := by decide +kernel
theorem dX6_setSquareLimit_14 : decode cX6_setSquareLimit 14 = .ok (.getfield 20, 3) := by decide +kernel
theorem dX6_setSquareLimit_17 : decode cX6_setSquareLimit 17 = .ok (.istore_n 2, 1) := by decide +kernel
theorem dX6_setSquareLimit_18 : decode cX6_setSquareLimit 18 = .ok (.aload_n 0, 1) := by decide +kernel
theorem dX6_setSquareLimit_19 : decode cX6_setSquareLimit 19 = .ok (.iload_n 1, 1) := by decide +kernel
theorem dX6_setSquareLimit_20 : decode cX6_setSquareLimit 20 = .ok (.putfield 20, 3) := by decide +kernel
theorem dX6_setSquareLimit_23 : decode cX6_setSquareLimit 23 = .ok (.iload_n 2, 1) := by decide +kernel
theorem dX6_setSquareLimit_24 : decode cX6_setSquareLimit 24 = .ok (.ireturn, 1) := by decide +kernel
theorem dX6_setAcceleration_0 : decode cX6_setAcceleration 0 = .ok (.iload_n 1, 1) := by decide +kernel
theorem dX6_setAcceleration_1 : decode cX6_setAcceleration 1 = .ok (.iconst 1, 1) := by decide +kernel
theorem dX6_setAcceleration_2 : decode cX6_setAcceleration 2 = .ok (.bipush 99, 2) := by decide +kernel
theorem dX6_setAcceleration_4 : decode cX6_setAcceleration 4 = .ok (.invokestatic 38, 3) := by decide +kernel
theorem dX6_setAcceleration_7 : decode cX6_setAcceleration 7 = .ok (.ifCond .ne 5, 3) := by decide +kernel
theorem dX6_setAcceleration_10 : decode cX6_setAcceleration 10 = .ok (.iconst (-1), 1) := by decide +kernel
theorem dX6_setAcceleration_11 : decode cX6_setAcceleration 11 = .ok (.ireturn, 1) := by decide +kernel
theorem dX6_setAcceleration_12 : decode cX6_setAcceleration 12 = .ok (.aload_n 0, 1) := by decide +kernel
theorem dX6_setAcceleration_13 : decode cX6_setAcceleration 13 = .ok (.getfield 23, 3) := by decide +kernel
theorem dX6_setAcceleration_16 : decode cX6_setAcceleration 16 = .ok (.istore_n 2, 1) := by decide +kernel
theorem dX6_setAcceleration_17 : decode cX6_setAcceleration 17 = .ok (.aload_n 0, 1) := by decide +kernel
theorem dX6_setAcceleration_18 : decode cX6_setAcceleration 18 = .ok (.iload_n 1, 1) := by decide +kernel
theorem dX6_setAcceleration_19 : decode cX6_setAcceleration 19 = .ok (.putfield 23, 3) := by decide +kernel
theorem dX6_setAcceleration_22 : decode cX6_setAcceleration 22 = .ok (.iload_n 2, 1) := by decide +kernel
theorem dX6_setAcceleration_23 : decode cX6_setAcceleration 23 = .ok (.ireturn, 1) := by decide +kernel
theorem dX6_dx_0 : decode cX6_dx 0 = .ok (.aload_n 0, 1) := by decide +kernel
theorem dX6_dx_1 : decode cX6_dx 1 = .ok (.getfield 7, 3) := by decide +kernel
theorem dX6_dx_4 : decode cX6_dx 4 = .ok (.aload_n 0, 1) := by decide +kernel
theorem dX6_dx_5 : decode cX6_dx 5 = .ok (.iload_n 1, 1) := by decide +kernel
theorem dX6_dx_6 : decode cX6_dx 6 = .ok (.invokevirtual 86, 3) := by decide +kernel
theorem dX6_dx_9 : decode cX6_dx 9 = .ok (.invokestatic 92, 3) := by decide +kernel
theorem dX6_dx_12 : decode cX6_dx 12 = .ok (.iaload, 1) := by decide +kernel
theorem dX6_dx_13 : decode cX6_dx 13 = .ok (.aload_n 0, 1) := by decide +kernel
theorem dX6_dx_14 : decode cX6_dx 14 = .ok (.getfield 7, 3) := by decide +kernel
theorem dX6_dx_17 : decode cX6_dx 17 = .ok (.aload_n 0, 1) := by decide +kernel
theorem dX6_dx_18 : decode cX6_dx 18 = .ok (.iload_n 1, 1) := by decide +kernel
theorem dX6_dx_19 : decode cX6_dx 19 = .ok (.invokevirtual 86, 3) := by decide +kernel
theorem dX6_dx_22 : decode cX6_dx 22 = .ok (.invokestatic 89, 3) := by decide +kernel
theorem dX6_dx_25 : decode cX6_dx 25 = .ok (.iaload, 1) := by decide +kernel
theorem dX6_dx_26 : decode cX6_dx 26 = .ok (.isub, 1) := by decide +kernel
theorem dX6_dx_27 : decode cX6_dx 27 = .ok (.ireturn, 1) := by decide +kernel
theorem dX6_dy_0 : decode cX6_dy 0 = .ok (.aload_n 0, 1) := by decide +kernel
theorem dX6_dy_1 : decode cX6_dy 1 = .ok (.getfield 7, 3) := by decide +kernel
theorem dX6_dy_4 : decode cX6_dy 4 = .ok (.aload_n 0, 1) := by decide +kernel
theorem dX6_dy_5 : decode cX6_dy 5 = .ok (.iload_n 1, 1) := by decide +kernel
theorem dX6_dy_6 : decode cX6_dy 6 = .ok (.invokevirtual 86, 3) := by decide +kernel
theorem dX6_dy_9 : decode cX6_dy 9 = .ok (.invokestatic 92, 3) := by decide +kernel
theorem dX6_dy_12 : decode cX6_dy 12 = .ok (.iconst 1, 1) := by decide +kernel
theorem dX6_dy_13 : decode cX6_dy 13 = .ok (.iadd, 1) := by decide +kernel
theorem dX6_dy_14 : decode cX6_dy 14 = .ok (.iaload, 1) := by decide +kernel
theorem dX6_dy_15 : decode cX6_dy 15 = .ok (.aload_n 0, 1) := by decide +kernel
theorem dX6_dy_16 : decode cX6_dy 16 = .ok (.getfield 7, 3) := by decide +kernel
theorem dX6_dy_19 : decode cX6_dy 19 = .ok (.aload_n 0, 1) := by decide +kernel
theorem dX6_dy_20 : decode cX6_dy 20 = .ok (.iload_n 1, 1) := by decide +kernel
theorem dX6_dy_21 : decode cX6_dy 21 = .ok (.invokevirtual 86, 3) := by decide +kernel
theorem dX6_dy_24 : decode cX6_dy 24 = .ok (.invokestatic 89, 3) := by decide +kernel
theorem dX6_dy_27 : decode cX6_dy 27 = .ok (.iconst 1, 1) := by decide +kernel
theorem dX6_dy_28 : decode cX6_dy 28 = .ok (.iadd, 1) := by decide +kernel
theorem dX6_dy_29 : decode cX6_dy 29 = .ok (.iaload, 1) := by decide +kernel
theorem dX6_dy_30 : decode cX6_dy 30 = .ok (.isub, 1) := by decide +kernel
theorem dX6_dy_31 : decode cX6_dy 31 = .ok (.ireturn, 1) := by decide +kernel
theorem dX6_corner_0 : decode cX6_corner 0 = .ok (.aload_n 0, 1) := by decide +kernel
theorem dX6_corner_1 : decode cX6_corner 1 = .ok (.iload_n 1, 1) := by decide +kernel
theorem dX6_corner_2 : decode cX6_corner 2 = .ok (.invokevirtual 112, 3) := by decide +kernel
theorem dX6_corner_5 : decode cX6_corner 5 = .ok (.aload_n 0, 1) := by decide +kernel
theorem dX6_corner_6 : decode cX6_corner 6 = .ok (.iload_n 1, 1) := by decide +kernel
theorem dX6_corner_7 : decode cX6_corner 7 = .ok (.iconst 1, 1) := by decide +kernel
theorem dX6_corner_8 : decode cX6_corner 8 = .ok (.iadd, 1) := by decide +kernel
theorem dX6_corner_9 : decode cX6_corner 9 = .ok (.invokevirtual 112, 3) := by decide +kernel
theorem dX6_corner_12 : decode cX6_corner 12 = .ok (.imul, 1) := by decide +kernel
theorem dX6_corner_13 : decode cX6_corner 13 = .ok (.aload_n 0, 1) := by decide +kernel
theorem dX6_corner_14 : decode cX6_corner 14 = .ok (.iload_n 1, 1) := by decide +kernel
theorem dX6_corner_15 : decode cX6_corner 15 = .ok (.invokevirtual 115, 3) := by decide +kernel
theorem dX6_corner_18 : decode cX6_corner 18 = .ok (.aload_n 0, 1) := by decide +kernel
theorem dX6_corner_19 : decode cX6_corner 19 = .ok (.iload_n 1, 1) := by decide +kernel
theorem dX6_corner_20 : decode cX6_corner 20 = .ok (.iconst 1, 1) := by decide +kernel
theorem dX6_corner_21 : decode cX6_corner 21 = .ok (.iadd, 1) := by decide +kernel
theorem dX6_corner_22 : decode cX6_corner 22 = .ok (.invokevirtual 115, 3) := by decide +kernel
theorem dX6_corner_25 : decode cX6_corner 25 = .ok (.imul, 1) := by decide +kernel
theorem dX6_corner_26 : decode cX6_corner 26 = .ok (.iadd, 1) := by decide +kernel
theorem dX6_corner_27 : decode cX6_corner 27 = .ok (.istore_n 2, 1) := by decide +kernel
theorem dX6_corner_28 : decode cX6_corner 28 = .ok (.aload_n 0, 1) := by decide +kernel
theorem dX6_corner_29 : decode cX6_corner 29 = .ok (.iload_n 1, 1) := by decide +kernel
theorem dX6_corner_30 : decode cX6_corner 30 = .ok (.invokevirtual 112, 3) := by decide +kernel
theorem dX6_corner_33 : decode cX6_corner 33 = .ok (.aload_n 0, 1) := by decide +kernel
theorem dX6_corner_34 : decode cX6_corner 34 = .ok (.iload_n 1, 1) := by decide +kernel
theorem dX6_corner_35 : decode cX6_corner 35 = .ok (.iconst 1, 1) := by decide +kernel
theorem dX6_corner_36 : decode cX6_corner 36 = .ok (.iadd, 1) := by decide +kernel
theorem dX6_corner_37 : decode cX6_corner 37 = .ok (.invokevirtual 115, 3) := by decide +kernel
theorem dX6_corner_40 : decode cX6_corner 40 = .ok (.imul, 1) := by decide +kernel
theorem dX6_corner_41 : decode cX6_corner 41 = .ok (.aload_n 0, 1) := by decide +kernel
theorem dX6_corner_42 : decode cX6_corner 42 = .ok (.iload_n 1, 1) := by decide +kernel
theorem dX6_corner_43 : decode cX6_corner 43 = .ok (.invokevirtual 115, 3) := by decide +kernel
theorem dX6_corner_46 : decode cX6_corner 46 = .ok (.aload_n 0, 1) := by decide +kernel
theorem dX6_corner_47 : decode cX6_corner 47 = .ok (.iload_n 1, 1) := by decide +kernel
theorem dX6_corner_48 : decode cX6_corner 48 = .ok (.iconst 1, 1) := by decide +kernel
theorem dX6_corner_49 : decode cX6_corner 49 = .ok (.iadd, 1) := by decide +kernel
theorem dX6_corner_50 : decode cX6_corner 50 = .ok (.invokevirtual 112, 3) := by decide +kernel
theorem dX6_corner_53 : decode cX6_corner 53 = .ok (.imul, 1) := by decide +kernel
theorem dX6_corner_54 : decode cX6_corner 54 = .ok (.isub, 1) := by decide +kernel
theorem dX6_corner_55 : decode cX6_corner 55 = .ok (.istore_n 3, 1) := by decide +kernel
theorem dX6_corner_56 : decode cX6_corner 56 = .ok (.iload_n 2, 1) := by decide +kernel
theorem dX6_corner_57 : decode cX6_corner 57 = .ok (.ifCond .gt 7, 3) := by decide +kernel
theorem dX6_corner_60 : decode cX6_corner 60 = .ok (.iconst 0, 1) := by decide +kernel
theorem dX6_corner_61 : decode cX6_corner 61 = .ok (.goto 20, 3) := by decide +kernel
theorem dX6_corner_64 : decode cX6_corner 64 = .ok (.iload_n 3, 1) := by decide +kernel
theorem dX6_corner_65 : decode cX6_corner 65 = .ok (.ifCond .ne 10, 3) := by decide +kernel
theorem dX6_corner_68 : decode cX6_corner 68 = .ok (.aload_n 0, 1) := by decide +kernel
theorem dX6_corner_69 : decode cX6_corner 69 = .ok (.getfield 20, 3) := by decide +kernel
theorem dX6_corner_72 : decode cX6_corner 72 = .ok (.goto 9, 3) := by decide +kernel
theorem dX6_corner_75 : decode cX6_corner 75 = .ok (.aload_n 0, 1) := by decide +kernel
theorem dX6_corner_76 : decode cX6_corner 76 = .ok (.getfield 20, 3) := by decide +kernel
theorem dX6_corner_79 : decode cX6_corner 79 = .ok (.iconst 4, 1) := by decide +kernel
theorem dX6_corner_80 : decode cX6_corner 80 = .ok (.idiv, 1) := by decide +kernel
theorem dX6_corner_81 : decode cX6_corner 81 = .ok (.ireturn, 1) := by decide +kernel
theorem dX6_cornerLimit_0 : decode cX6_cornerLimit 0 = .ok (.aload_n 0, 1) := by decide +kernel
theorem dX6_cornerLimit_1 : decode cX6_cornerLimit 1 = .ok (.iload_n 1, 1) := by decide +kernel
theorem dX6_cornerLimit_2 : decode cX6_cornerLimit 2 = .ok (.invokevirtual 83, 3) := by decide +kernel
theorem dX6_cornerLimit_5 : decode cX6_cornerLimit 5 = .ok (.ifCond .ne 5, 3) := by decide +kernel
theorem dX6_cornerLimit_8 : decode cX6_cornerLimit 8 = .ok (.iconst (-1), 1) := by decide +kernel
theorem dX6_cornerLimit_9 : decode cX6_cornerLimit 9 = .ok (.ireturn, 1) := by decide +kernel
theorem dX6_cornerLimit_10 : decode cX6_cornerLimit 10 = .ok (.aload_n 0, 1) := by decide +kernel
theorem dX6_cornerLimit_11 : decode cX6_cornerLimit 11 = .ok (.iload_n 1, 1) := by decide +kernel
theorem dX6_cornerLimit_12 : decode cX6_cornerLimit 12 = .ok (.invokevirtual 101, 3) := by decide +kernel
theorem dX6_cornerLimit_15 : decode cX6_cornerLimit 15 = .ok (.ifCond .eq 11, 3) := by decide +kernel
theorem dX6_cornerLimit_18 : decode cX6_cornerLimit 18 = .ok (.aload_n 0, 1) := by decide +kernel
theorem dX6_cornerLimit_19 : decode cX6_cornerLimit 19 = .ok (.iload_n 1, 1) := by decide +kernel
theorem dX6_cornerLimit_20 : decode cX6_cornerLimit 20 = .ok (.invokevirtual 118, 3) := by decide +kernel
theorem dX6_cornerLimit_23 : decode cX6_cornerLimit 23 = .ok (.goto 5, 3) := by decide +kernel
theorem dX6_cornerLimit_26 : decode cX6_cornerLimit 26 = .ok (.bipush (-3), 2) := by decide +kernel
theorem dX6_cornerLimit_28 : decode cX6_cornerLimit 28 = .ok (.ireturn, 1) := by decide +kernel
theorem dX6_gain_0 : decode cX6_gain 0 = .ok (.iconst 2, 1) := by decide +kernel
theorem dX6_gain_1 : decode cX6_gain 1 = .ok (.aload_n 0, 1) := by decide +kernel
theorem dX6_gain_2 : decode cX6_gain 2 = .ok (.getfield 23, 3) := by decide +kernel
theorem dX6_gain_5 : decode cX6_gain 5 = .ok (.imul, 1) := by decide +kernel
theorem dX6_gain_6 : decode cX6_gain 6 = .ok (.aload_n 0, 1) := by decide +kernel
theorem dX6_gain_7 : decode cX6_gain 7 = .ok (.iload_n 1, 1) := by decide +kernel
theorem dX6_gain_8 : decode cX6_gain 8 = .ok (.invokevirtual 112, 3) := by decide +kernel
theorem dX6_gain_11 : decode cX6_gain 11 = .ok (.aload_n 0, 1) := by decide +kernel
theorem dX6_gain_12 : decode cX6_gain 12 = .ok (.iload_n 1, 1) := by decide +kernel
theorem dX6_gain_13 : decode cX6_gain 13 = .ok (.invokevirtual 115, 3) := by decide +kernel
theorem dX6_gain_16 : decode cX6_gain 16 = .ok (.invokestatic 95, 3) := by decide +kernel
theorem dX6_gain_19 : decode cX6_gain 19 = .ok (.imul, 1) := by decide +kernel
theorem dX6_gain_20 : decode cX6_gain 20 = .ok (.ireturn, 1) := by decide +kernel
theorem dX6_before_0 : decode cX6_before 0 = .ok (.aload_n 0, 1) := by decide +kernel
theorem dX6_before_1 : decode cX6_before 1 = .ok (.iload_n 1, 1) := by decide +kernel
theorem dX6_before_2 : decode cX6_before 2 = .ok (.iconst 1, 1) := by decide +kernel
theorem dX6_before_3 : decode cX6_before 3 = .ok (.isub, 1) := by decide +kernel
theorem dX6_before_4 : decode cX6_before 4 = .ok (.invokevirtual 101, 3) := by decide +kernel
theorem dX6_before_7 : decode cX6_before 7 = .ok (.ifCond .eq 14, 3) := by decide +kernel
theorem dX6_before_10 : decode cX6_before 10 = .ok (.aload_n 0, 1) := by decide +kernel
theorem dX6_before_11 : decode cX6_before 11 = .ok (.getfield 35, 3) := by decide +kernel
theorem dX6_before_14 : decode cX6_before 14 = .ok (.iload_n 1, 1) := by decide +kernel
theorem dX6_before_15 : decode cX6_before 15 = .ok (.iconst 1, 1) := by decide +kernel
theorem dX6_before_16 : decode cX6_before 16 = .ok (.isub, 1) := by decide +kernel
theorem dX6_before_17 : decode cX6_before 17 = .ok (.iaload, 1) := by decide +kernel
theorem dX6_before_18 : decode cX6_before 18 = .ok (.goto 4, 3) := by decide +kernel
theorem dX6_before_21 : decode cX6_before 21 = .ok (.iconst 0, 1) := by decide +kernel
theorem dX6_before_22 : decode cX6_before 22 = .ok (.ireturn, 1) := by decide +kernel
theorem dX6_speeds_0 : decode cX6_speeds 0 = .ok (.iconst 0, 1) := by decide +kernel
theorem dX6_speeds_1 : decode cX6_speeds 1 = .ok (.istore_n 1, 1) := by decide +kernel
theorem dX6_speeds_2 : decode cX6_speeds 2 = .ok (.iload_n 1, 1) := by decide +kernel
theorem dX6_speeds_3 : decode cX6_speeds 3 = .ok (.aload_n 0, 1) := by decide +kernel
theorem dX6_speeds_4 : decode cX6_speeds 4 = .ok (.getfield 7, 3) := by decide +kernel
theorem dX6_speeds_7 : decode cX6_speeds 7 = .ok (.bipush 48, 2) := by decide +kernel
theorem dX6_speeds_9 : decode cX6_speeds 9 = .ok (.iaload, 1) := by decide +kernel
theorem dX6_speeds_10 : decode cX6_speeds 10 = .ok (.if_icmp .ge 55, 3) := by decide +kernel
theorem dX6_speeds_13 : decode cX6_speeds 13 = .ok (.aload_n 0, 1) := by decide +kernel
theorem dX6_speeds_14 : decode cX6_speeds 14 = .ok (.iload_n 1, 1) := by decide +kernel
theorem dX6_speeds_15 : decode cX6_speeds 15 = .ok (.invokevirtual 121, 3) := by decide +kernel
theorem dX6_speeds_18 : decode cX6_speeds 18 = .ok (.aload_n 0, 1) := by decide +kernel
theorem dX6_speeds_19 : decode cX6_speeds 19 = .ok (.iload_n 1, 1) := by decide +kernel
theorem dX6_speeds_20 : decode cX6_speeds 20 = .ok (.invokevirtual 124, 3) := by decide +kernel
theorem dX6_speeds_23 : decode cX6_speeds 23 = .ok (.iadd, 1) := by decide +kernel
theorem dX6_speeds_24 : decode cX6_speeds 24 = .ok (.istore_n 2, 1) := by decide +kernel
theorem dX6_speeds_25 : decode cX6_speeds 25 = .ok (.aload_n 0, 1) := by decide +kernel
theorem dX6_speeds_26 : decode cX6_speeds 26 = .ok (.iload_n 1, 1) := by decide +kernel
theorem dX6_speeds_27 : decode cX6_speeds 27 = .ok (.invokevirtual 101, 3) := by decide +kernel
theorem dX6_speeds_30 : decode cX6_speeds 30 = .ok (.ifCond .eq 11, 3) := by decide +kernel
theorem dX6_speeds_33 : decode cX6_speeds 33 = .ok (.aload_n 0, 1) := by decide +kernel
theorem dX6_speeds_34 : decode cX6_speeds 34 = .ok (.iload_n 1, 1) := by decide +kernel
theorem dX6_speeds_35 : decode cX6_speeds 35 = .ok (.invokevirtual 118, 3) := by decide +kernel
theorem dX6_speeds_38 : decode cX6_speeds 38 = .ok (.goto 4, 3) := by decide +kernel
theorem dX6_speeds_41 : decode cX6_speeds 41 = .ok (.iconst 0, 1) := by decide +kernel
theorem dX6_speeds_42 : decode cX6_speeds 42 = .ok (.istore_n 3, 1) := by decide +kernel
theorem dX6_speeds_43 : decode cX6_speeds 43 = .ok (.aload_n 0, 1) := by decide +kernel
theorem dX6_speeds_44 : decode cX6_speeds 44 = .ok (.getfield 35, 3) := by decide +kernel
theorem dX6_speeds_47 : decode cX6_speeds 47 = .ok (.iload_n 1, 1) := by decide +kernel
theorem dX6_speeds_48 : decode cX6_speeds 48 = .ok (.iload_n 2, 1) := by decide +kernel
theorem dX6_speeds_49 : decode cX6_speeds 49 = .ok (.iload_n 3, 1) := by decide +kernel
theorem dX6_speeds_50 : decode cX6_speeds 50 = .ok (.if_icmp .ge 7, 3) := by decide +kernel
theorem dX6_speeds_53 : decode cX6_speeds 53 = .ok (.iload_n 2, 1) := by decide +kernel
theorem dX6_speeds_54 : decode cX6_speeds 54 = .ok (.goto 4, 3) := by decide +kernel
theorem dX6_speeds_57 : decode cX6_speeds 57 = .ok (.iload_n 3, 1) := by decide +kernel
theorem dX6_speeds_58 : decode cX6_speeds 58 = .ok (.iastore, 1) := by decide +kernel
theorem dX6_speeds_59 : decode cX6_speeds 59 = .ok (.iinc 1 1, 3) := by decide +kernel
theorem dX6_speeds_62 : decode cX6_speeds 62 = .ok (.goto (-60), 3) := by decide +kernel
theorem dX6_speeds_65 : decode cX6_speeds 65 = .ok (.aload_n 0, 1) := by decide +kernel
theorem dX6_speeds_66 : decode cX6_speeds 66 = .ok (.getfield 7, 3) := by decide +kernel
theorem dX6_speeds_69 : decode cX6_speeds 69 = .ok (.bipush 48, 2) := by decide +kernel
theorem dX6_speeds_71 : decode cX6_speeds 71 = .ok (.iaload, 1) := by decide +kernel
theorem dX6_speeds_72 : decode cX6_speeds 72 = .ok (.iconst 1, 1) := by decide +kernel
theorem dX6_speeds_73 : decode cX6_speeds 73 = .ok (.isub, 1) := by decide +kernel
theorem dX6_speeds_74 : decode cX6_speeds 74 = .ok (.istore_n 1, 1) := by decide +kernel
theorem dX6_speeds_75 : decode cX6_speeds 75 = .ok (.iload_n 1, 1) := by decide +kernel
theorem dX6_speeds_76 : decode cX6_speeds 76 = .ok (.ifCond .le 53, 3) := by decide +kernel
theorem dX6_speeds_79 : decode cX6_speeds 79 = .ok (.aload_n 0, 1) := by decide +kernel
theorem dX6_speeds_80 : decode cX6_speeds 80 = .ok (.getfield 35, 3) := by decide +kernel
theorem dX6_speeds_83 : decode cX6_speeds 83 = .ok (.iload_n 1, 1) := by decide +kernel
theorem dX6_speeds_84 : decode cX6_speeds 84 = .ok (.iaload, 1) := by decide +kernel
theorem dX6_speeds_85 : decode cX6_speeds 85 = .ok (.aload_n 0, 1) := by decide +kernel
theorem dX6_speeds_86 : decode cX6_speeds 86 = .ok (.iload_n 1, 1) := by decide +kernel
theorem dX6_speeds_87 : decode cX6_speeds 87 = .ok (.invokevirtual 124, 3) := by decide +kernel
theorem dX6_speeds_90 : decode cX6_speeds 90 = .ok (.iadd, 1) := by decide +kernel
theorem dX6_speeds_91 : decode cX6_speeds 91 = .ok (.istore_n 2, 1) := by decide +kernel
theorem dX6_speeds_92 : decode cX6_speeds 92 = .ok (.aload_n 0, 1) := by decide +kernel
theorem dX6_speeds_93 : decode cX6_speeds 93 = .ok (.iload_n 1, 1) := by decide +kernel
theorem dX6_speeds_94 : decode cX6_speeds 94 = .ok (.iconst 1, 1) := by decide +kernel
theorem dX6_speeds_95 : decode cX6_speeds 95 = .ok (.isub, 1) := by decide +kernel
theorem dX6_speeds_96 : decode cX6_speeds 96 = .ok (.invokevirtual 101, 3) := by decide +kernel
theorem dX6_speeds_99 : decode cX6_speeds 99 = .ok (.ifCond .eq 24, 3) := by decide +kernel
theorem dX6_speeds_102 : decode cX6_speeds 102 = .ok (.aload_n 0, 1) := by decide +kernel
theorem dX6_speeds_103 : decode cX6_speeds 103 = .ok (.getfield 35, 3) := by decide +kernel
theorem dX6_speeds_106 : decode cX6_speeds 106 = .ok (.iload_n 1, 1) := by decide +kernel
theorem dX6_speeds_107 : decode cX6_speeds 107 = .ok (.iconst 1, 1) := by decide +kernel
theorem dX6_speeds_108 : decode cX6_speeds 108 = .ok (.isub, 1) := by decide +kernel
theorem dX6_speeds_109 : decode cX6_speeds 109 = .ok (.iaload, 1) := by decide +kernel
theorem dX6_speeds_110 : decode cX6_speeds 110 = .ok (.iload_n 2, 1) := by decide +kernel
theorem dX6_speeds_111 : decode cX6_speeds 111 = .ok (.if_icmp .le 12, 3) := by decide +kernel
theorem dX6_speeds_114 : decode cX6_speeds 114 = .ok (.aload_n 0, 1) := by decide +kernel
theorem dX6_speeds_115 : decode cX6_speeds 115 = .ok (.getfield 35, 3) := by decide +kernel
theorem dX6_speeds_118 : decode cX6_speeds 118 = .ok (.iload_n 1, 1) := by decide +kernel
theorem dX6_speeds_119 : decode cX6_speeds 119 = .ok (.iconst 1, 1) := by decide +kernel
theorem dX6_speeds_120 : decode cX6_speeds 120 = .ok (.isub, 1) := by decide +kernel
theorem dX6_speeds_121 : decode cX6_speeds 121 = .ok (.iload_n 2, 1) := by decide +kernel
theorem dX6_speeds_122 : decode cX6_speeds 122 = .ok (.iastore, 1) := by decide +kernel
theorem dX6_speeds_123 : decode cX6_speeds 123 = .ok (.iinc 1 (-1), 3) := by decide +kernel
theorem dX6_speeds_126 : decode cX6_speeds 126 = .ok (.goto (-51), 3) := by decide +kernel
theorem dX6_speeds_129 : decode cX6_speeds 129 = .ok (.return_, 1) := by decide +kernel
theorem dX6_endSquare_0 : decode cX6_endSquare 0 = .ok (.aload_n 0, 1) := by decide +kernel
theorem dX6_endSquare_1 : decode cX6_endSquare 1 = .ok (.iload_n 1, 1) := by decide +kernel
theorem dX6_endSquare_2 : decode cX6_endSquare 2 = .ok (.invokevirtual 83, 3) := by decide +kernel
theorem dX6_endSquare_5 : decode cX6_endSquare 5 = .ok (.ifCond .ne 5, 3) := by decide +kernel
theorem dX6_endSquare_8 : decode cX6_endSquare 8 = .ok (.iconst (-1), 1) := by decide +kernel
theorem dX6_endSquare_9 : decode cX6_endSquare 9 = .ok (.ireturn, 1) := by decide +kernel
theorem dX6_endSquare_10 : decode cX6_endSquare 10 = .ok (.aload_n 0, 1) := by decide +kernel
theorem dX6_endSquare_11 : decode cX6_endSquare 11 = .ok (.invokevirtual 127, 3) := by decide +kernel
theorem dX6_endSquare_14 : decode cX6_endSquare 14 = .ok (.aload_n 0, 1) := by decide +kernel
theorem dX6_endSquare_15 : decode cX6_endSquare 15 = .ok (.getfield 35, 3) := by decide +kernel
theorem dX6_endSquare_18 : decode cX6_endSquare 18 = .ok (.iload_n 1, 1) := by decide +kernel
theorem dX6_endSquare_19 : decode cX6_endSquare 19 = .ok (.iaload, 1) := by decide +kernel
theorem dX6_endSquare_20 : decode cX6_endSquare 20 = .ok (.ireturn, 1) := by decide +kernel
theorem dX6_peakSquare_0 : decode cX6_peakSquare 0 = .ok (.aload_n 0, 1) := by decide +kernel
theorem dX6_peakSquare_1 : decode cX6_peakSquare 1 = .ok (.iload_n 1, 1) := by decide +kernel
theorem dX6_peakSquare_2 : decode cX6_peakSquare 2 = .ok (.invokevirtual 83, 3) := by decide +kernel
theorem dX6_peakSquare_5 : decode cX6_peakSquare 5 = .ok (.ifCond .ne 5, 3) := by decide +kernel
theorem dX6_peakSquare_8 : decode cX6_peakSquare 8 = .ok (.iconst (-1), 1) := by decide +kernel
theorem dX6_peakSquare_9 : decode cX6_peakSquare 9 = .ok (.ireturn, 1) := by decide +kernel
theorem dX6_peakSquare_10 : decode cX6_peakSquare 10 = .ok (.aload_n 0, 1) := by decide +kernel
theorem dX6_peakSquare_11 : decode cX6_peakSquare 11 = .ok (.invokevirtual 127, 3) := by decide +kernel
theorem dX6_peakSquare_14 : decode cX6_peakSquare 14 = .ok (.aload_n 0, 1) := by decide +kernel
theorem dX6_peakSquare_15 : decode cX6_peakSquare 15 = .ok (.iload_n 1, 1) := by decide +kernel
theorem dX6_peakSquare_16 : decode cX6_peakSquare 16 = .ok (.invokevirtual 121, 3) := by decide +kernel
theorem dX6_peakSquare_19 : decode cX6_peakSquare 19 = .ok (.aload_n 0, 1) := by decide +kernel
theorem dX6_peakSquare_20 : decode cX6_peakSquare 20 = .ok (.getfield 35, 3) := by decide +kernel
theorem dX6_peakSquare_23 : decode cX6_peakSquare 23 = .ok (.iload_n 1, 1) := by decide +kernel
theorem dX6_peakSquare_24 : decode cX6_peakSquare 24 = .ok (.iaload, 1) := by decide +kernel
theorem dX6_peakSquare_25 : decode cX6_peakSquare 25 = .ok (.iadd, 1) := by decide +kernel
theorem dX6_peakSquare_26 : decode cX6_peakSquare 26 = .ok (.aload_n 0, 1) := by decide +kernel
theorem dX6_peakSquare_27 : decode cX6_peakSquare 27 = .ok (.iload_n 1, 1) := by decide +kernel
theorem dX6_peakSquare_28 : decode cX6_peakSquare 28 = .ok (.invokevirtual 124, 3) := by decide +kernel
theorem dX6_peakSquare_31 : decode cX6_peakSquare 31 = .ok (.iadd, 1) := by decide +kernel
theorem dX6_peakSquare_32 : decode cX6_peakSquare 32 = .ok (.iconst 2, 1) := by decide +kernel
theorem dX6_peakSquare_33 : decode cX6_peakSquare 33 = .ok (.idiv, 1) := by decide +kernel
theorem dX6_peakSquare_34 : decode cX6_peakSquare 34 = .ok (.istore_n 2, 1) := by decide +kernel
theorem dX6_peakSquare_35 : decode cX6_peakSquare 35 = .ok (.iload_n 2, 1) := by decide +kernel
theorem dX6_peakSquare_36 : decode cX6_peakSquare 36 = .ok (.aload_n 0, 1) := by decide +kernel
theorem dX6_peakSquare_37 : decode cX6_peakSquare 37 = .ok (.getfield 20, 3) := by decide +kernel
theorem dX6_peakSquare_40 : decode cX6_peakSquare 40 = .ok (.if_icmp .ge 7, 3) := by decide +kernel
theorem dX6_peakSquare_43 : decode cX6_peakSquare 43 = .ok (.iload_n 2, 1) := by decide +kernel
theorem dX6_peakSquare_44 : decode cX6_peakSquare 44 = .ok (.goto 7, 3) := by decide +kernel
theorem dX6_peakSquare_47 : decode cX6_peakSquare 47 = .ok (.aload_n 0, 1) := by decide +kernel
theorem dX6_peakSquare_48 : decode cX6_peakSquare 48 = .ok (.getfield 20, 3) := by decide +kernel
theorem dX6_peakSquare_51 : decode cX6_peakSquare 51 = .ok (.ireturn, 1) := by decide +kernel
end
section
theorem dL_law_0 : decode cL_law 0 = .ok (.new 7, 3) := by decide +kernel
theorem dL_law_3 : decode cL_law 3 = .ok (.dup, 1) := by decide +kernel
theorem dL_law_4 : decode cL_law 4 = .ok (.invokespecial 9, 3) := by decide +kernel
theorem dL_law_7 : decode cL_law 7 = .ok (.astore_n 1, 1) := by decide +kernel
theorem dL_law_8 : decode cL_law 8 = .ok (.new 10, 3) := by decide +kernel
theorem dL_law_11 : decode cL_law 11 = .ok (.dup, 1) := by decide +kernel
theorem dL_law_12 : decode cL_law 12 = .ok (.invokespecial 12, 3) := by decide +kernel
theorem dL_law_15 : decode cL_law 15 = .ok (.astore_n 2, 1) := by decide +kernel
theorem dL_law_16 : decode cL_law 16 = .ok (.iconst 0, 1) := by decide +kernel
theorem dL_law_17 : decode cL_law 17 = .ok (.istore_n 3, 1) := by decide +kernel
theorem dL_law_18 : decode cL_law 18 = .ok (.iload_n 3, 1) := by decide +kernel
theorem dL_law_19 : decode cL_law 19 = .ok (.aload_n 0, 1) := by decide +kernel
theorem dL_law_20 : decode cL_law 20 = .ok (.arraylength, 1) := by decide +kernel
theorem dL_law_21 : decode cL_law 21 = .ok (.bipush 6, 2) := by decide +kernel
theorem dL_law_23 : decode cL_law 23 = .ok (.isub, 1) := by decide +kernel
theorem dL_law_24 : decode cL_law 24 = .ok (.if_icmp .gt 719, 3) := by decide +kernel
theorem dL_law_27 : decode cL_law 27 = .ok (.aload_n 0, 1) := by decide +kernel
theorem dL_law_28 : decode cL_law 28 = .ok (.iload_n 3, 1) := by decide +kernel
theorem dL_law_29 : decode cL_law 29 = .ok (.iaload, 1) := by decide +kernel
theorem dL_law_30 : decode cL_law 30 = .ok (.bipush 31, 2) := by decide +kernel
theorem dL_law_32 : decode cL_law 32 = .ok (.iand, 1) := by decide +kernel
theorem dL_law_33 : decode cL_law 33 = .ok (.tableswitch 704 0 26 #[123, 186, 209, 222, 245, 268, 291, 304, 327, 350, 373, 406, 429, 442, 455, 468, 491, 514, 527, 550, 563, 576, 599, 622, 645, 668, 691], 123) := by decide +kernel
theorem dL_law_156 : decode cL_law 156 = .ok (.aload_n 1, 1) := by decide +kernel
theorem dL_law_157 : decode cL_law 157 = .ok (.aload_n 0, 1) := by decide +kernel
theorem dL_law_158 : decode cL_law 158 = .ok (.iload_n 3, 1) := by decide +kernel
theorem dL_law_159 : decode cL_law 159 = .ok (.iconst 1, 1) := by decide +kernel
theorem dL_law_160 : decode cL_law 160 = .ok (.iadd, 1) := by decide +kernel
theorem dL_law_161 : decode cL_law 161 = .ok (.iaload, 1) := by decide +kernel
theorem dL_law_162 : decode cL_law 162 = .ok (.aload_n 0, 1) := by decide +kernel
theorem dL_law_163 : decode cL_law 163 = .ok (.iload_n 3, 1) := by decide +kernel
theorem dL_law_164 : decode cL_law 164 = .ok (.iconst 2, 1) := by decide +kernel
theorem dL_law_165 : decode cL_law 165 = .ok (.iadd, 1) := by decide +kernel
theorem dL_law_166 : decode cL_law 166 = .ok (.iaload, 1) := by decide +kernel
theorem dL_law_167 : decode cL_law 167 = .ok (.aload_n 0, 1) := by decide +kernel
theorem dL_law_168 : decode cL_law 168 = .ok (.iload_n 3, 1) := by decide +kernel
theorem dL_law_169 : decode cL_law 169 = .ok (.iconst 3, 1) := by decide +kernel
theorem dL_law_170 : decode cL_law 170 = .ok (.iadd, 1) := by decide +kernel
theorem dL_law_171 : decode cL_law 171 = .ok (.iaload, 1) := by decide +kernel
theorem dL_law_172 : decode cL_law 172 = .ok (.aload_n 0, 1) := by decide +kernel
theorem dL_law_173 : decode cL_law 173 = .ok (.iload_n 3, 1) := by decide +kernel
theorem dL_law_174 : decode cL_law 174 = .ok (.iconst 4, 1) := by decide +kernel
theorem dL_law_175 : decode cL_law 175 = .ok (.iadd, 1) := by decide +kernel
theorem dL_law_176 : decode cL_law 176 = .ok (.iaload, 1) := by decide +kernel
theorem dL_law_177 : decode cL_law 177 = .ok (.aload_n 0, 1) := by decide +kernel
theorem dL_law_178 : decode cL_law 178 = .ok (.iload_n 3, 1) := by decide +kernel
theorem dL_law_179 : decode cL_law 179 = .ok (.iconst 5, 1) := by decide +kernel
theorem dL_law_180 : decode cL_law 180 = .ok (.iadd, 1) := by decide +kernel
theorem dL_law_181 : decode cL_law 181 = .ok (.iaload, 1) := by decide +kernel
theorem dL_law_182 : decode cL_law 182 = .ok (.invokevirtual 13, 3) := by decide +kernel
theorem dL_law_185 : decode cL_law 185 = .ok (.aload_n 2, 1) := by decide +kernel
theorem dL_law_186 : decode cL_law 186 = .ok (.aload_n 0, 1) := by decide +kernel
theorem dL_law_187 : decode cL_law 187 = .ok (.iload_n 3, 1) := by decide +kernel
theorem dL_law_188 : decode cL_law 188 = .ok (.iconst 1, 1) := by decide +kernel
theorem dL_law_189 : decode cL_law 189 = .ok (.iadd, 1) := by decide +kernel
theorem dL_law_190 : decode cL_law 190 = .ok (.iaload, 1) := by decide +kernel
theorem dL_law_191 : decode cL_law 191 = .ok (.aload_n 0, 1) := by decide +kernel
theorem dL_law_192 : decode cL_law 192 = .ok (.iload_n 3, 1) := by decide +kernel
theorem dL_law_193 : decode cL_law 193 = .ok (.iconst 2, 1) := by decide +kernel
theorem dL_law_194 : decode cL_law 194 = .ok (.iadd, 1) := by decide +kernel
theorem dL_law_195 : decode cL_law 195 = .ok (.iaload, 1) := by decide +kernel
theorem dL_law_196 : decode cL_law 196 = .ok (.aload_n 0, 1) := by decide +kernel
theorem dL_law_197 : decode cL_law 197 = .ok (.iload_n 3, 1) := by decide +kernel
theorem dL_law_198 : decode cL_law 198 = .ok (.iconst 3, 1) := by decide +kernel
theorem dL_law_199 : decode cL_law 199 = .ok (.iadd, 1) := by decide +kernel
theorem dL_law_200 : decode cL_law 200 = .ok (.iaload, 1) := by decide +kernel
theorem dL_law_201 : decode cL_law 201 = .ok (.aload_n 0, 1) := by decide +kernel
theorem dL_law_202 : decode cL_law 202 = .ok (.iload_n 3, 1) := by decide +kernel
theorem dL_law_203 : decode cL_law 203 = .ok (.iconst 4, 1) := by decide +kernel
theorem dL_law_204 : decode cL_law 204 = .ok (.iadd, 1) := by decide +kernel
theorem dL_law_205 : decode cL_law 205 = .ok (.iaload, 1) := by decide +kernel
theorem dL_law_206 : decode cL_law 206 = .ok (.aload_n 0, 1) := by decide +kernel
theorem dL_law_207 : decode cL_law 207 = .ok (.iload_n 3, 1) := by decide +kernel
theorem dL_law_208 : decode cL_law 208 = .ok (.iconst 5, 1) := by decide +kernel
theorem dL_law_209 : decode cL_law 209 = .ok (.iadd, 1) := by decide +kernel
theorem dL_law_210 : decode cL_law 210 = .ok (.iaload, 1) := by decide +kernel
theorem dL_law_211 : decode cL_law 211 = .ok (.invokevirtual 17, 3) := by decide +kernel
theorem dL_law_214 : decode cL_law 214 = .ok (.if_icmp .eq 523, 3) := by decide +kernel
theorem dL_law_217 : decode cL_law 217 = .ok (.iconst 0, 1) := by decide +kernel
theorem dL_law_218 : decode cL_law 218 = .ok (.ireturn, 1) := by decide +kernel
theorem dL_law_219 : decode cL_law 219 = .ok (.aload_n 1, 1) := by decide +kernel
theorem dL_law_220 : decode cL_law 220 = .ok (.aload_n 0, 1) := by decide +kernel
theorem dL_law_221 : decode cL_law 221 = .ok (.iload_n 3, 1) := by decide +kernel
theorem dL_law_222 : decode cL_law 222 = .ok (.iconst 1, 1) := by decide +kernel
theorem dL_law_223 : decode cL_law 223 = .ok (.iadd, 1) := by decide +kernel
theorem dL_law_224 : decode cL_law 224 = .ok (.iaload, 1) := by decide +kernel
theorem dL_law_225 : decode cL_law 225 = .ok (.invokevirtual 18, 3) := by decide +kernel
theorem dL_law_228 : decode cL_law 228 = .ok (.aload_n 2, 1) := by decide +kernel
theorem dL_law_229 : decode cL_law 229 = .ok (.aload_n 0, 1) := by decide +kernel
theorem dL_law_230 : decode cL_law 230 = .ok (.iload_n 3, 1) := by decide +kernel
theorem dL_law_231 : decode cL_law 231 = .ok (.iconst 1, 1) := by decide +kernel
theorem dL_law_232 : decode cL_law 232 = .ok (.iadd, 1) := by decide +kernel
theorem dL_law_233 : decode cL_law 233 = .ok (.iaload, 1) := by decide +kernel
theorem dL_law_234 : decode cL_law 234 = .ok (.invokevirtual 22, 3) := by decide +kernel
theorem dL_law_237 : decode cL_law 237 = .ok (.if_icmp .eq 500, 3) := by decide +kernel
theorem dL_law_240 : decode cL_law 240 = .ok (.iconst 0, 1) := by decide +kernel
theorem dL_law_241 : decode cL_law 241 = .ok (.ireturn, 1) := by decide +kernel
theorem dL_law_242 : decode cL_law 242 = .ok (.aload_n 1, 1) := by decide +kernel
theorem dL_law_243 : decode cL_law 243 = .ok (.invokevirtual 23, 3) := by decide +kernel
theorem dL_law_246 : decode cL_law 246 = .ok (.aload_n 2, 1) := by decide +kernel
theorem dL_law_247 : decode cL_law 247 = .ok (.invokevirtual 27, 3) := by decide +kernel
theorem dL_law_250 : decode cL_law 250 = .ok (.if_icmp .eq 487, 3) := by decide +kernel
theorem dL_law_253 : decode cL_law 253 = .ok (.iconst 0, 1) := by decide +kernel
theorem dL_law_254 : decode cL_law 254 = .ok (.ireturn, 1) := by decide +kernel
theorem dL_law_255 : decode cL_law 255 = .ok (.aload_n 1, 1) := by decide +kernel
theorem dL_law_256 : decode cL_law 256 = .ok (.aload_n 0, 1) := by decide +kernel
theorem dL_law_257 : decode cL_law 257 = .ok (.iload_n 3, 1) := by decide +kernel
theorem dL_law_258 : decode cL_law 258 = .ok (.iconst 1, 1) := by decide +kernel
theorem dL_law_259 : decode cL_law 259 = .ok (.iadd, 1) := by decide +kernel
theorem dL_law_260 : decode cL_law 260 = .ok (.iaload, 1) := by decide +kernel
theorem dL_law_261 : decode cL_law 261 = .ok (.invokevirtual 28, 3) := by decide +kernel
theorem dL_law_264 : decode cL_law 264 = .ok (.aload_n 2, 1) := by decide +kernel
theorem dL_law_265 : decode cL_law 265 = .ok (.aload_n 0, 1) := by decide +kernel
theorem dL_law_266 : decode cL_law 266 = .ok (.iload_n 3, 1) := by decide +kernel
theorem dL_law_267 : decode cL_law 267 = .ok (.iconst 1, 1) := by decide +kernel
theorem dL_law_268 : decode cL_law 268 = .ok (.iadd, 1) := by decide +kernel
theorem dL_law_269 : decode cL_law 269 = .ok (.iaload, 1) := by decide +kernel
theorem dL_law_270 : decode cL_law 270 = .ok (.invokevirtual 31, 3) := by decide +kernel
theorem dL_law_273 : decode cL_law 273 = .ok (.if_icmp .eq 464, 3) := by decide +kernel
theorem dL_law_276 : decode cL_law 276 = .ok (.iconst 0, 1) := by decide +kernel
theorem dL_law_277 : decode cL_law 277 = .ok (.ireturn, 1) := by decide +kernel
theorem dL_law_278 : decode cL_law 278 = .ok (.aload_n 1, 1) := by decide +kernel
theorem dL_law_279 : decode cL_law 279 = .ok (.aload_n 0, 1) := by decide +kernel
theorem dL_law_280 : decode cL_law 280 = .ok (.iload_n 3, 1) := by decide +kernel
theorem dL_law_281 : decode cL_law 281 = .ok (.iconst 1, 1) := by decide +kernel
theorem dL_law_282 : decode cL_law 282 = .ok (.iadd, 1) := by decide +kernel
theorem dL_law_283 : decode cL_law 283 = .ok (.iaload, 1) := by decide +kernel
theorem dL_law_284 : decode cL_law 284 = .ok (.invokevirtual 32, 3) := by decide +kernel
theorem dL_law_287 : decode cL_law 287 = .ok (.aload_n 2, 1) := by decide +kernel
theorem dL_law_288 : decode cL_law 288 = .ok (.aload_n 0, 1) := by decide +kernel
theorem dL_law_289 : decode cL_law 289 = .ok (.iload_n 3, 1) := by decide +kernel
theorem dL_law_290 : decode cL_law 290 = .ok (.iconst 1, 1) := by decide +kernel
theorem dL_law_291 : decode cL_law 291 = .ok (.iadd, 1) := by decide +kernel
theorem dL_law_292 : decode cL_law 292 = .ok (.iaload, 1) := by decide +kernel
theorem dL_law_293 : decode cL_law 293 = .ok (.invokevirtual 35, 3) := by decide +kernel
theorem dL_law_296 : decode cL_law 296 = .ok (.if_icmp .eq 441, 3) := by decide +kernel
theorem dL_law_299 : decode cL_law 299 = .ok (.iconst 0, 1) := by decide +kernel
theorem dL_law_300 : decode cL_law 300 = .ok (.ireturn, 1) := by decide +kernel
theorem dL_law_301 : decode cL_law 301 = .ok (.aload_n 1, 1) := by decide +kernel
theorem dL_law_302 : decode cL_law 302 = .ok (.aload_n 0, 1) := by decide +kernel
theorem dL_law_303 : decode cL_law 303 = .ok (.iload_n 3, 1) := by decide +kernel
theorem dL_law_304 : decode cL_law 304 = .ok (.iconst 1, 1) := by decide +kernel
theorem dL_law_305 : decode cL_law 305 = .ok (.iadd, 1) := by decide +kernel
theorem dL_law_306 : decode cL_law 306 = .ok (.iaload, 1) := by decide +kernel
theorem dL_law_307 : decode cL_law 307 = .ok (.invokevirtual 36, 3) := by decide +kernel
theorem dL_law_310 : decode cL_law 310 = .ok (.aload_n 2, 1) := by decide +kernel
theorem dL_law_311 : decode cL_law 311 = .ok (.aload_n 0, 1) := by decide +kernel
theorem dL_law_312 : decode cL_law 312 = .ok (.iload_n 3, 1) := by decide +kernel
theorem dL_law_313 : decode cL_law 313 = .ok (.iconst 1, 1) := by decide +kernel
theorem dL_law_314 : decode cL_law 314 = .ok (.iadd, 1) := by decide +kernel
theorem dL_law_315 : decode cL_law 315 = .ok (.iaload, 1) := by decide +kernel
theorem dL_law_316 : decode cL_law 316 = .ok (.invokevirtual 39, 3) := by decide +kernel
theorem dL_law_319 : decode cL_law 319 = .ok (.if_icmp .eq 418, 3) := by decide +kernel
theorem dL_law_322 : decode cL_law 322 = .ok (.iconst 0, 1) := by decide +kernel
theorem dL_law_323 : decode cL_law 323 = .ok (.ireturn, 1) := by decide +kernel
theorem dL_law_324 : decode cL_law 324 = .ok (.aload_n 1, 1) := by decide +kernel
theorem dL_law_325 : decode cL_law 325 = .ok (.invokevirtual 40, 3) := by decide +kernel
theorem dL_law_328 : decode cL_law 328 = .ok (.aload_n 2, 1) := by decide +kernel
theorem dL_law_329 : decode cL_law 329 = .ok (.invokevirtual 43, 3) := by decide +kernel
theorem dL_law_332 : decode cL_law 332 = .ok (.if_icmp .eq 405, 3) := by decide +kernel
theorem dL_law_335 : decode cL_law 335 = .ok (.iconst 0, 1) := by decide +kernel
theorem dL_law_336 : decode cL_law 336 = .ok (.ireturn, 1) := by decide +kernel
theorem dL_law_337 : decode cL_law 337 = .ok (.aload_n 1, 1) := by decide +kernel
theorem dL_law_338 : decode cL_law 338 = .ok (.aload_n 0, 1) := by decide +kernel
theorem dL_law_339 : decode cL_law 339 = .ok (.iload_n 3, 1) := by decide +kernel
theorem dL_law_340 : decode cL_law 340 = .ok (.iconst 1, 1) := by decide +kernel
theorem dL_law_341 : decode cL_law 341 = .ok (.iadd, 1) := by decide +kernel
theorem dL_law_342 : decode cL_law 342 = .ok (.iaload, 1) := by decide +kernel
theorem dL_law_343 : decode cL_law 343 = .ok (.invokevirtual 44, 3) := by decide +kernel
theorem dL_law_346 : decode cL_law 346 = .ok (.aload_n 2, 1) := by decide +kernel
theorem dL_law_347 : decode cL_law 347 = .ok (.aload_n 0, 1) := by decide +kernel
theorem dL_law_348 : decode cL_law 348 = .ok (.iload_n 3, 1) := by decide +kernel
theorem dL_law_349 : decode cL_law 349 = .ok (.iconst 1, 1) := by decide +kernel
theorem dL_law_350 : decode cL_law 350 = .ok (.iadd, 1) := by decide +kernel
theorem dL_law_351 : decode cL_law 351 = .ok (.iaload, 1) := by decide +kernel
theorem dL_law_352 : decode cL_law 352 = .ok (.invokevirtual 47, 3) := by decide +kernel
theorem dL_law_355 : decode cL_law 355 = .ok (.if_icmp .eq 382, 3) := by decide +kernel
theorem dL_law_358 : decode cL_law 358 = .ok (.iconst 0, 1) := by decide +kernel
theorem dL_law_359 : decode cL_law 359 = .ok (.ireturn, 1) := by decide +kernel
theorem dL_law_360 : decode cL_law 360 = .ok (.aload_n 1, 1) := by decide +kernel
theorem dL_law_361 : decode cL_law 361 = .ok (.aload_n 0, 1) := by decide +kernel
theorem dL_law_362 : decode cL_law 362 = .ok (.iload_n 3, 1) := by decide +kernel
theorem dL_law_363 : decode cL_law 363 = .ok (.iconst 1, 1) := by decide +kernel
theorem dL_law_364 : decode cL_law 364 = .ok (.iadd, 1) := by decide +kernel
theorem dL_law_365 : decode cL_law 365 = .ok (.iaload, 1) := by decide +kernel
theorem dL_law_366 : decode cL_law 366 = .ok (.invokevirtual 48, 3) := by decide +kernel
theorem dL_law_369 : decode cL_law 369 = .ok (.aload_n 2, 1) := by decide +kernel
theorem dL_law_370 : decode cL_law 370 = .ok (.aload_n 0, 1) := by decide +kernel
theorem dL_law_371 : decode cL_law 371 = .ok (.iload_n 3, 1) := by decide +kernel
theorem dL_law_372 : decode cL_law 372 = .ok (.iconst 1, 1) := by decide +kernel
theorem dL_law_373 : decode cL_law 373 = .ok (.iadd, 1) := by decide +kernel
theorem dL_law_374 : decode cL_law 374 = .ok (.iaload, 1) := by decide +kernel
theorem dL_law_375 : decode cL_law 375 = .ok (.invokevirtual 51, 3) := by decide +kernel
theorem dL_law_378 : decode cL_law 378 = .ok (.if_icmp .eq 359, 3) := by decide +kernel
theorem dL_law_381 : decode cL_law 381 = .ok (.iconst 0, 1) := by decide +kernel
theorem dL_law_382 : decode cL_law 382 = .ok (.ireturn, 1) := by decide +kernel
theorem dL_law_383 : decode cL_law 383 = .ok (.aload_n 1, 1) := by decide +kernel
theorem dL_law_384 : decode cL_law 384 = .ok (.aload_n 0, 1) := by decide +kernel
theorem dL_law_385 : decode cL_law 385 = .ok (.iload_n 3, 1) := by decide +kernel
theorem dL_law_386 : decode cL_law 386 = .ok (.iconst 1, 1) := by decide +kernel
theorem dL_law_387 : decode cL_law 387 = .ok (.iadd, 1) := by decide +kernel
theorem dL_law_388 : decode cL_law 388 = .ok (.iaload, 1) := by decide +kernel
theorem dL_law_389 : decode cL_law 389 = .ok (.invokevirtual 52, 3) := by decide +kernel
theorem dL_law_392 : decode cL_law 392 = .ok (.aload_n 2, 1) := by decide +kernel
theorem dL_law_393 : decode cL_law 393 = .ok (.aload_n 0, 1) := by decide +kernel
theorem dL_law_394 : decode cL_law 394 = .ok (.iload_n 3, 1) := by decide +kernel
theorem dL_law_395 : decode cL_law 395 = .ok (.iconst 1, 1) := by decide +kernel
theorem dL_law_396 : decode cL_law 396 = .ok (.iadd, 1) := by decide +kernel
theorem dL_law_397 : decode cL_law 397 = .ok (.iaload, 1) := by decide +kernel
theorem dL_law_398 : decode cL_law 398 = .ok (.invokevirtual 55, 3) := by decide +kernel
theorem dL_law_401 : decode cL_law 401 = .ok (.if_icmp .eq 336, 3) := by decide +kernel
theorem dL_law_404 : decode cL_law 404 = .ok (.iconst 0, 1) := by decide +kernel
theorem dL_law_405 : decode cL_law 405 = .ok (.ireturn, 1) := by decide +kernel
theorem dL_law_406 : decode cL_law 406 = .ok (.aload_n 1, 1) := by decide +kernel
theorem dL_law_407 : decode cL_law 407 = .ok (.aload_n 0, 1) := by decide +kernel
theorem dL_law_408 : decode cL_law 408 = .ok (.iload_n 3, 1) := by decide +kernel
theorem dL_law_409 : decode cL_law 409 = .ok (.iconst 1, 1) := by decide +kernel
theorem dL_law_410 : decode cL_law 410 = .ok (.iadd, 1) := by decide +kernel
theorem dL_law_411 : decode cL_law 411 = .ok (.iaload, 1) := by decide +kernel
theorem dL_law_412 : decode cL_law 412 = .ok (.aload_n 0, 1) := by decide +kernel
theorem dL_law_413 : decode cL_law 413 = .ok (.iload_n 3, 1) := by decide +kernel
theorem dL_law_414 : decode cL_law 414 = .ok (.iconst 2, 1) := by decide +kernel
theorem dL_law_415 : decode cL_law 415 = .ok (.iadd, 1) := by decide +kernel
theorem dL_law_416 : decode cL_law 416 = .ok (.iaload, 1) := by decide +kernel
theorem dL_law_417 : decode cL_law 417 = .ok (.invokevirtual 56, 3) := by decide +kernel
theorem dL_law_420 : decode cL_law 420 = .ok (.aload_n 2, 1) := by decide +kernel
theorem dL_law_421 : decode cL_law 421 = .ok (.aload_n 0, 1) := by decide +kernel
theorem dL_law_422 : decode cL_law 422 = .ok (.iload_n 3, 1) := by decide +kernel
theorem dL_law_423 : decode cL_law 423 = .ok (.iconst 1, 1) := by decide +kernel
theorem dL_law_424 : decode cL_law 424 = .ok (.iadd, 1) := by decide +kernel
theorem dL_law_425 : decode cL_law 425 = .ok (.iaload, 1) := by decide +kernel
theorem dL_law_426 : decode cL_law 426 = .ok (.aload_n 0, 1) := by decide +kernel
theorem dL_law_427 : decode cL_law 427 = .ok (.iload_n 3, 1) := by decide +kernel
theorem dL_law_428 : decode cL_law 428 = .ok (.iconst 2, 1) := by decide +kernel
theorem dL_law_429 : decode cL_law 429 = .ok (.iadd, 1) := by decide +kernel
theorem dL_law_430 : decode cL_law 430 = .ok (.iaload, 1) := by decide +kernel
theorem dL_law_431 : decode cL_law 431 = .ok (.invokevirtual 60, 3) := by decide +kernel
theorem dL_law_434 : decode cL_law 434 = .ok (.if_icmp .eq 303, 3) := by decide +kernel
theorem dL_law_437 : decode cL_law 437 = .ok (.iconst 0, 1) := by decide +kernel
theorem dL_law_438 : decode cL_law 438 = .ok (.ireturn, 1) := by decide +kernel
theorem dL_law_439 : decode cL_law 439 = .ok (.aload_n 1, 1) := by decide +kernel
theorem dL_law_440 : decode cL_law 440 = .ok (.aload_n 0, 1) := by decide +kernel
theorem dL_law_441 : decode cL_law 441 = .ok (.iload_n 3, 1) := by decide +kernel
theorem dL_law_442 : decode cL_law 442 = .ok (.iconst 1, 1) := by decide +kernel
theorem dL_law_443 : decode cL_law 443 = .ok (.iadd, 1) := by decide +kernel
theorem dL_law_444 : decode cL_law 444 = .ok (.iaload, 1) := by decide +kernel
theorem dL_law_445 : decode cL_law 445 = .ok (.invokevirtual 61, 3) := by decide +kernel
theorem dL_law_448 : decode cL_law 448 = .ok (.aload_n 2, 1) := by decide +kernel
theorem dL_law_449 : decode cL_law 449 = .ok (.aload_n 0, 1) := by decide +kernel
theorem dL_law_450 : decode cL_law 450 = .ok (.iload_n 3, 1) := by decide +kernel
theorem dL_law_451 : decode cL_law 451 = .ok (.iconst 1, 1) := by decide +kernel
theorem dL_law_452 : decode cL_law 452 = .ok (.iadd, 1) := by decide +kernel
theorem dL_law_453 : decode cL_law 453 = .ok (.iaload, 1) := by decide +kernel
theorem dL_law_454 : decode cL_law 454 = .ok (.invokevirtual 64, 3) := by decide +kernel
theorem dL_law_457 : decode cL_law 457 = .ok (.if_icmp .eq 280, 3) := by decide +kernel
theorem dL_law_460 : decode cL_law 460 = .ok (.iconst 0, 1) := by decide +kernel
theorem dL_law_461 : decode cL_law 461 = .ok (.ireturn, 1) := by decide +kernel
theorem dL_law_462 : decode cL_law 462 = .ok (.aload_n 1, 1) := by decide +kernel
theorem dL_law_463 : decode cL_law 463 = .ok (.invokevirtual 65, 3) := by decide +kernel
theorem dL_law_466 : decode cL_law 466 = .ok (.aload_n 2, 1) := by decide +kernel
theorem dL_law_467 : decode cL_law 467 = .ok (.invokevirtual 68, 3) := by decide +kernel
theorem dL_law_470 : decode cL_law 470 = .ok (.if_icmp .eq 267, 3) := by decide +kernel
theorem dL_law_473 : decode cL_law 473 = .ok (.iconst 0, 1) := by decide +kernel
theorem dL_law_474 : decode cL_law 474 = .ok (.ireturn, 1) := by decide +kernel
theorem dL_law_475 : decode cL_law 475 = .ok (.aload_n 1, 1) := by decide +kernel
theorem dL_law_476 : decode cL_law 476 = .ok (.invokevirtual 69, 3) := by decide +kernel
theorem dL_law_479 : decode cL_law 479 = .ok (.aload_n 2, 1) := by decide +kernel
theorem dL_law_480 : decode cL_law 480 = .ok (.invokevirtual 72, 3) := by decide +kernel
theorem dL_law_483 : decode cL_law 483 = .ok (.if_icmp .eq 254, 3) := by decide +kernel
theorem dL_law_486 : decode cL_law 486 = .ok (.iconst 0, 1) := by decide +kernel
theorem dL_law_487 : decode cL_law 487 = .ok (.ireturn, 1) := by decide +kernel
theorem dL_law_488 : decode cL_law 488 = .ok (.aload_n 1, 1) := by decide +kernel
theorem dL_law_489 : decode cL_law 489 = .ok (.invokevirtual 73, 3) := by decide +kernel
theorem dL_law_492 : decode cL_law 492 = .ok (.aload_n 2, 1) := by decide +kernel
theorem dL_law_493 : decode cL_law 493 = .ok (.invokevirtual 76, 3) := by decide +kernel
theorem dL_law_496 : decode cL_law 496 = .ok (.if_icmp .eq 241, 3) := by decide +kernel
theorem dL_law_499 : decode cL_law 499 = .ok (.iconst 0, 1) := by decide +kernel
theorem dL_law_500 : decode cL_law 500 = .ok (.ireturn, 1) := by decide +kernel
theorem dL_law_501 : decode cL_law 501 = .ok (.aload_n 1, 1) := by decide +kernel
theorem dL_law_502 : decode cL_law 502 = .ok (.aload_n 0, 1) := by decide +kernel
theorem dL_law_503 : decode cL_law 503 = .ok (.iload_n 3, 1) := by decide +kernel
theorem dL_law_504 : decode cL_law 504 = .ok (.iconst 1, 1) := by decide +kernel
theorem dL_law_505 : decode cL_law 505 = .ok (.iadd, 1) := by decide +kernel
theorem dL_law_506 : decode cL_law 506 = .ok (.iaload, 1) := by decide +kernel
theorem dL_law_507 : decode cL_law 507 = .ok (.invokevirtual 77, 3) := by decide +kernel
theorem dL_law_510 : decode cL_law 510 = .ok (.aload_n 2, 1) := by decide +kernel
theorem dL_law_511 : decode cL_law 511 = .ok (.aload_n 0, 1) := by decide +kernel
theorem dL_law_512 : decode cL_law 512 = .ok (.iload_n 3, 1) := by decide +kernel
theorem dL_law_513 : decode cL_law 513 = .ok (.iconst 1, 1) := by decide +kernel
theorem dL_law_514 : decode cL_law 514 = .ok (.iadd, 1) := by decide +kernel
theorem dL_law_515 : decode cL_law 515 = .ok (.iaload, 1) := by decide +kernel
theorem dL_law_516 : decode cL_law 516 = .ok (.invokevirtual 80, 3) := by decide +kernel
theorem dL_law_519 : decode cL_law 519 = .ok (.if_icmp .eq 218, 3) := by decide +kernel
theorem dL_law_522 : decode cL_law 522 = .ok (.iconst 0, 1) := by decide +kernel
theorem dL_law_523 : decode cL_law 523 = .ok (.ireturn, 1) := by decide +kernel
theorem dL_law_524 : decode cL_law 524 = .ok (.aload_n 1, 1) := by decide +kernel
theorem dL_law_525 : decode cL_law 525 = .ok (.aload_n 0, 1) := by decide +kernel
theorem dL_law_526 : decode cL_law 526 = .ok (.iload_n 3, 1) := by decide +kernel
theorem dL_law_527 : decode cL_law 527 = .ok (.iconst 1, 1) := by decide +kernel
theorem dL_law_528 : decode cL_law 528 = .ok (.iadd, 1) := by decide +kernel
theorem dL_law_529 : decode cL_law 529 = .ok (.iaload, 1) := by decide +kernel
theorem dL_law_530 : decode cL_law 530 = .ok (.invokevirtual 81, 3) := by decide +kernel
theorem dL_law_533 : decode cL_law 533 = .ok (.aload_n 2, 1) := by decide +kernel
theorem dL_law_534 : decode cL_law 534 = .ok (.aload_n 0, 1) := by decide +kernel
theorem dL_law_535 : decode cL_law 535 = .ok (.iload_n 3, 1) := by decide +kernel
theorem dL_law_536 : decode cL_law 536 = .ok (.iconst 1, 1) := by decide +kernel
theorem dL_law_537 : decode cL_law 537 = .ok (.iadd, 1) := by decide +kernel
theorem dL_law_538 : decode cL_law 538 = .ok (.iaload, 1) := by decide +kernel
theorem dL_law_539 : decode cL_law 539 = .ok (.invokevirtual 84, 3) := by decide +kernel
theorem dL_law_542 : decode cL_law 542 = .ok (.if_icmp .eq 195, 3) := by decide +kernel
theorem dL_law_545 : decode cL_law 545 = .ok (.iconst 0, 1) := by decide +kernel
theorem dL_law_546 : decode cL_law 546 = .ok (.ireturn, 1) := by decide +kernel
theorem dL_law_547 : decode cL_law 547 = .ok (.aload_n 1, 1) := by decide +kernel
theorem dL_law_548 : decode cL_law 548 = .ok (.invokevirtual 85, 3) := by decide +kernel
theorem dL_law_551 : decode cL_law 551 = .ok (.aload_n 2, 1) := by decide +kernel
theorem dL_law_552 : decode cL_law 552 = .ok (.invokevirtual 88, 3) := by decide +kernel
theorem dL_law_555 : decode cL_law 555 = .ok (.if_icmp .eq 182, 3) := by decide +kernel
theorem dL_law_558 : decode cL_law 558 = .ok (.iconst 0, 1) := by decide +kernel
theorem dL_law_559 : decode cL_law 559 = .ok (.ireturn, 1) := by decide +kernel
theorem dL_law_560 : decode cL_law 560 = .ok (.aload_n 1, 1) := by decide +kernel
theorem dL_law_561 : decode cL_law 561 = .ok (.aload_n 0, 1) := by decide +kernel
theorem dL_law_562 : decode cL_law 562 = .ok (.iload_n 3, 1) := by decide +kernel
theorem dL_law_563 : decode cL_law 563 = .ok (.iconst 1, 1) := by decide +kernel
theorem dL_law_564 : decode cL_law 564 = .ok (.iadd, 1) := by decide +kernel
theorem dL_law_565 : decode cL_law 565 = .ok (.iaload, 1) := by decide +kernel
theorem dL_law_566 : decode cL_law 566 = .ok (.invokevirtual 89, 3) := by decide +kernel
theorem dL_law_569 : decode cL_law 569 = .ok (.aload_n 2, 1) := by decide +kernel
theorem dL_law_570 : decode cL_law 570 = .ok (.aload_n 0, 1) := by decide +kernel
theorem dL_law_571 : decode cL_law 571 = .ok (.iload_n 3, 1) := by decide +kernel
theorem dL_law_572 : decode cL_law 572 = .ok (.iconst 1, 1) := by decide +kernel
theorem dL_law_573 : decode cL_law 573 = .ok (.iadd, 1) := by decide +kernel
theorem dL_law_574 : decode cL_law 574 = .ok (.iaload, 1) := by decide +kernel
theorem dL_law_575 : decode cL_law 575 = .ok (.invokevirtual 92, 3) := by decide +kernel
theorem dL_law_578 : decode cL_law 578 = .ok (.if_icmp .eq 159, 3) := by decide +kernel
theorem dL_law_581 : decode cL_law 581 = .ok (.iconst 0, 1) := by decide +kernel
theorem dL_law_582 : decode cL_law 582 = .ok (.ireturn, 1) := by decide +kernel
theorem dL_law_583 : decode cL_law 583 = .ok (.aload_n 1, 1) := by decide +kernel
theorem dL_law_584 : decode cL_law 584 = .ok (.invokevirtual 93, 3) := by decide +kernel
theorem dL_law_587 : decode cL_law 587 = .ok (.aload_n 2, 1) := by decide +kernel
theorem dL_law_588 : decode cL_law 588 = .ok (.invokevirtual 96, 3) := by decide +kernel
theorem dL_law_591 : decode cL_law 591 = .ok (.if_icmp .eq 146, 3) := by decide +kernel
theorem dL_law_594 : decode cL_law 594 = .ok (.iconst 0, 1) := by decide +kernel
theorem dL_law_595 : decode cL_law 595 = .ok (.ireturn, 1) := by decide +kernel
theorem dL_law_596 : decode cL_law 596 = .ok (.aload_n 1, 1) := by decide +kernel
theorem dL_law_597 : decode cL_law 597 = .ok (.invokevirtual 97, 3) := by decide +kernel
theorem dL_law_600 : decode cL_law 600 = .ok (.aload_n 2, 1) := by decide +kernel
theorem dL_law_601 : decode cL_law 601 = .ok (.invokevirtual 100, 3) := by decide +kernel
theorem dL_law_604 : decode cL_law 604 = .ok (.if_icmp .eq 133, 3) := by decide +kernel
theorem dL_law_607 : decode cL_law 607 = .ok (.iconst 0, 1) := by decide +kernel
theorem dL_law_608 : decode cL_law 608 = .ok (.ireturn, 1) := by decide +kernel
theorem dL_law_609 : decode cL_law 609 = .ok (.aload_n 1, 1) := by decide +kernel
theorem dL_law_610 : decode cL_law 610 = .ok (.aload_n 0, 1) := by decide +kernel
theorem dL_law_611 : decode cL_law 611 = .ok (.iload_n 3, 1) := by decide +kernel
theorem dL_law_612 : decode cL_law 612 = .ok (.iconst 1, 1) := by decide +kernel
theorem dL_law_613 : decode cL_law 613 = .ok (.iadd, 1) := by decide +kernel
theorem dL_law_614 : decode cL_law 614 = .ok (.iaload, 1) := by decide +kernel
theorem dL_law_615 : decode cL_law 615 = .ok (.invokevirtual 101, 3) := by decide +kernel
theorem dL_law_618 : decode cL_law 618 = .ok (.aload_n 2, 1) := by decide +kernel
theorem dL_law_619 : decode cL_law 619 = .ok (.aload_n 0, 1) := by decide +kernel
theorem dL_law_620 : decode cL_law 620 = .ok (.iload_n 3, 1) := by decide +kernel
theorem dL_law_621 : decode cL_law 621 = .ok (.iconst 1, 1) := by decide +kernel
theorem dL_law_622 : decode cL_law 622 = .ok (.iadd, 1) := by decide +kernel
theorem dL_law_623 : decode cL_law 623 = .ok (.iaload, 1) := by decide +kernel
theorem dL_law_624 : decode cL_law 624 = .ok (.invokevirtual 104, 3) := by decide +kernel
theorem dL_law_627 : decode cL_law 627 = .ok (.if_icmp .eq 110, 3) := by decide +kernel
theorem dL_law_630 : decode cL_law 630 = .ok (.iconst 0, 1) := by decide +kernel
theorem dL_law_631 : decode cL_law 631 = .ok (.ireturn, 1) := by decide +kernel
theorem dL_law_632 : decode cL_law 632 = .ok (.aload_n 1, 1) := by decide +kernel
theorem dL_law_633 : decode cL_law 633 = .ok (.aload_n 0, 1) := by decide +kernel
theorem dL_law_634 : decode cL_law 634 = .ok (.iload_n 3, 1) := by decide +kernel
theorem dL_law_635 : decode cL_law 635 = .ok (.iconst 1, 1) := by decide +kernel
theorem dL_law_636 : decode cL_law 636 = .ok (.iadd, 1) := by decide +kernel
theorem dL_law_637 : decode cL_law 637 = .ok (.iaload, 1) := by decide +kernel
theorem dL_law_638 : decode cL_law 638 = .ok (.invokevirtual 105, 3) := by decide +kernel
theorem dL_law_641 : decode cL_law 641 = .ok (.aload_n 2, 1) := by decide +kernel
theorem dL_law_642 : decode cL_law 642 = .ok (.aload_n 0, 1) := by decide +kernel
theorem dL_law_643 : decode cL_law 643 = .ok (.iload_n 3, 1) := by decide +kernel
theorem dL_law_644 : decode cL_law 644 = .ok (.iconst 1, 1) := by decide +kernel
theorem dL_law_645 : decode cL_law 645 = .ok (.iadd, 1) := by decide +kernel
theorem dL_law_646 : decode cL_law 646 = .ok (.iaload, 1) := by decide +kernel
theorem dL_law_647 : decode cL_law 647 = .ok (.invokevirtual 108, 3) := by decide +kernel
theorem dL_law_650 : decode cL_law 650 = .ok (.if_icmp .eq 87, 3) := by decide +kernel
theorem dL_law_653 : decode cL_law 653 = .ok (.iconst 0, 1) := by decide +kernel
theorem dL_law_654 : decode cL_law 654 = .ok (.ireturn, 1) := by decide +kernel
theorem dL_law_655 : decode cL_law 655 = .ok (.aload_n 1, 1) := by decide +kernel
theorem dL_law_656 : decode cL_law 656 = .ok (.aload_n 0, 1) := by decide +kernel
theorem dL_law_657 : decode cL_law 657 = .ok (.iload_n 3, 1) := by decide +kernel
theorem dL_law_658 : decode cL_law 658 = .ok (.iconst 1, 1) := by decide +kernel
theorem dL_law_659 : decode cL_law 659 = .ok (.iadd, 1) := by decide +kernel
theorem dL_law_660 : decode cL_law 660 = .ok (.iaload, 1) := by decide +kernel
theorem dL_law_661 : decode cL_law 661 = .ok (.invokevirtual 109, 3) := by decide +kernel
theorem dL_law_664 : decode cL_law 664 = .ok (.aload_n 2, 1) := by decide +kernel
theorem dL_law_665 : decode cL_law 665 = .ok (.aload_n 0, 1) := by decide +kernel
theorem dL_law_666 : decode cL_law 666 = .ok (.iload_n 3, 1) := by decide +kernel
theorem dL_law_667 : decode cL_law 667 = .ok (.iconst 1, 1) := by decide +kernel
theorem dL_law_668 : decode cL_law 668 = .ok (.iadd, 1) := by decide +kernel
theorem dL_law_669 : decode cL_law 669 = .ok (.iaload, 1) := by decide +kernel
theorem dL_law_670 : decode cL_law 670 = .ok (.invokevirtual 112, 3) := by decide +kernel
theorem dL_law_673 : decode cL_law 673 = .ok (.if_icmp .eq 64, 3) := by decide +kernel
theorem dL_law_676 : decode cL_law 676 = .ok (.iconst 0, 1) := by decide +kernel
theorem dL_law_677 : decode cL_law 677 = .ok (.ireturn, 1) := by decide +kernel
theorem dL_law_678 : decode cL_law 678 = .ok (.aload_n 1, 1) := by decide +kernel
theorem dL_law_679 : decode cL_law 679 = .ok (.aload_n 0, 1) := by decide +kernel
theorem dL_law_680 : decode cL_law 680 = .ok (.iload_n 3, 1) := by decide +kernel
theorem dL_law_681 : decode cL_law 681 = .ok (.iconst 1, 1) := by decide +kernel
theorem dL_law_682 : decode cL_law 682 = .ok (.iadd, 1) := by decide +kernel
theorem dL_law_683 : decode cL_law 683 = .ok (.iaload, 1) := by decide +kernel
theorem dL_law_684 : decode cL_law 684 = .ok (.invokevirtual 113, 3) := by decide +kernel
theorem dL_law_687 : decode cL_law 687 = .ok (.aload_n 2, 1) := by decide +kernel
theorem dL_law_688 : decode cL_law 688 = .ok (.aload_n 0, 1) := by decide +kernel
theorem dL_law_689 : decode cL_law 689 = .ok (.iload_n 3, 1) := by decide +kernel
theorem dL_law_690 : decode cL_law 690 = .ok (.iconst 1, 1) := by decide +kernel
theorem dL_law_691 : decode cL_law 691 = .ok (.iadd, 1) := by decide +kernel
theorem dL_law_692 : decode cL_law 692 = .ok (.iaload, 1) := by decide +kernel
theorem dL_law_693 : decode cL_law 693 = .ok (.invokevirtual 116, 3) := by decide +kernel
theorem dL_law_696 : decode cL_law 696 = .ok (.if_icmp .eq 41, 3) := by decide +kernel
theorem dL_law_699 : decode cL_law 699 = .ok (.iconst 0, 1) := by decide +kernel
theorem dL_law_700 : decode cL_law 700 = .ok (.ireturn, 1) := by decide +kernel
theorem dL_law_701 : decode cL_law 701 = .ok (.aload_n 1, 1) := by decide +kernel
theorem dL_law_702 : decode cL_law 702 = .ok (.aload_n 0, 1) := by decide +kernel
theorem dL_law_703 : decode cL_law 703 = .ok (.iload_n 3, 1) := by decide +kernel
theorem dL_law_704 : decode cL_law 704 = .ok (.iconst 1, 1) := by decide +kernel
theorem dL_law_705 : decode cL_law 705 = .ok (.iadd, 1) := by decide +kernel
theorem dL_law_706 : decode cL_law 706 = .ok (.iaload, 1) := by decide +kernel
theorem dL_law_707 : decode cL_law 707 = .ok (.invokevirtual 117, 3) := by decide +kernel
theorem dL_law_710 : decode cL_law 710 = .ok (.aload_n 2, 1) := by decide +kernel
theorem dL_law_711 : decode cL_law 711 = .ok (.aload_n 0, 1) := by decide +kernel
theorem dL_law_712 : decode cL_law 712 = .ok (.iload_n 3, 1) := by decide +kernel
theorem dL_law_713 : decode cL_law 713 = .ok (.iconst 1, 1) := by decide +kernel
theorem dL_law_714 : decode cL_law 714 = .ok (.iadd, 1) := by decide +kernel
theorem dL_law_715 : decode cL_law 715 = .ok (.iaload, 1) := by decide +kernel
theorem dL_law_716 : decode cL_law 716 = .ok (.invokevirtual 120, 3) := by decide +kernel
theorem dL_law_719 : decode cL_law 719 = .ok (.if_icmp .eq 18, 3) := by decide +kernel
theorem dL_law_722 : decode cL_law 722 = .ok (.iconst 0, 1) := by decide +kernel
theorem dL_law_723 : decode cL_law 723 = .ok (.ireturn, 1) := by decide +kernel
theorem dL_law_724 : decode cL_law 724 = .ok (.aload_n 1, 1) := by decide +kernel
theorem dL_law_725 : decode cL_law 725 = .ok (.invokevirtual 121, 3) := by decide +kernel
theorem dL_law_728 : decode cL_law 728 = .ok (.aload_n 2, 1) := by decide +kernel
theorem dL_law_729 : decode cL_law 729 = .ok (.invokevirtual 124, 3) := by decide +kernel
theorem dL_law_732 : decode cL_law 732 = .ok (.if_icmp .eq 5, 3) := by decide +kernel
theorem dL_law_735 : decode cL_law 735 = .ok (.iconst 0, 1) := by decide +kernel
theorem dL_law_736 : decode cL_law 736 = .ok (.ireturn, 1) := by decide +kernel
theorem dL_law_737 : decode cL_law 737 = .ok (.iinc 3 6, 3) := by decide +kernel
theorem dL_law_740 : decode cL_law 740 = .ok (.goto (-722), 3) := by decide +kernel
theorem dL_law_743 : decode cL_law 743 = .ok (.iconst 1, 1) := by decide +kernel
theorem dL_law_744 : decode cL_law 744 = .ok (.ireturn, 1) := by decide +kernel
end
section
-- ===== more number rows =====
def sw (c : Nat) : Nat := if c % 2 = 0 then c + 1 else c - 1
theorem xor_one_sw (a : Nat) : a ^^^ 1 = sw a := by
  have h1 : (a ^^^ 1) / 2 = a / 2 := by rw [Nat.xor_div_two]; simp
  have h2 : (a ^^^ 1) % 2 = 1 ↔ ¬ (a % 2 = 1) := by rw [Nat.xor_mod_two_eq_one]; simp
  unfold sw
  split <;> omega
theorem n_xor1 (a : Nat) : nI a ^^^ nI 1 = nI (sw a) := by rw [n_xor, xor_one_sw]
theorem n_and1 (a : Nat) : nI a &&& nI 1 = nI (a % 2) := by rw [n_and, Nat.and_one_is_mod]
theorem n_shl1 {k : Nat} (h : k < 31) : nI 1 <<< (nI k &&& 31) = nI (2 ^ k) := by
  have h2 : 2 ^ k < 2 ^ 31 := Nat.pow_lt_pow_right (by decide) h
  have := n_shl (a := 1) (k := k) h (by omega)
  rw [this, Nat.one_mul]
theorem n_dec {a : Nat} (h : 1 ≤ a) : nI a + Int32.ofInt (-1) = nI (a - 1) := by
  show nI a + zI (-1) = _
  rw [nz_add, ← zI_nI]; congr 1; omega
theorem n_eq0 {a : Nat} (h : a < 2147483648) : nI a = 0 ↔ a = 0 := n_eq (b := 0) h (by omega)
theorem n_lt0 {a : Nat} (h : a < 2147483648) : nI a < 0 ↔ a < 0 := n_lt (b := 0) h (by omega)
theorem n_ge0 {a : Nat} (h : a < 2147483648) : 0 ≤ nI a ↔ 0 ≤ a := n_le (a := 0) (by omega) h
theorem n_gt0 {a : Nat} (h : a < 2147483648) : 0 < nI a ↔ 0 < a := n_lt (a := 0) (by omega) h
theorem n_le0 {a : Nat} (h : a < 2147483648) : nI a ≤ 0 ↔ a ≤ 0 := n_le (b := 0) h (by omega)
theorem zR_0 : zR 0 := by unfold zR; omega
theorem z_eq0 {a : Int} (h : zR a) : zI a = 0 ↔ a = 0 := zI_eq (b := 0) h zR_0
theorem z_lt0 {a : Int} (h : zR a) : zI a < 0 ↔ a < 0 := zI_lt (b := 0) h zR_0
theorem z_ge0 {a : Int} (h : zR a) : 0 ≤ zI a ↔ 0 ≤ a := zI_le (a := 0) zR_0 h
theorem z_gt0 {a : Int} (h : zR a) : 0 < zI a ↔ 0 < a := zI_lt (a := 0) zR_0 h
theorem z_le0 {a : Int} (h : zR a) : zI a ≤ 0 ↔ a ≤ 0 := zI_le (b := 0) h zR_0
theorem z_max {a b : Int} (ha : zR a) (hb : zR b) : (if zI a < zI b then zI b else zI a) = zI (max a b) := by
  by_cases h : a < b
  · rw [if_pos ((zI_lt ha hb).mpr h)]; congr 1; omega
  · rw [if_neg (fun q => h ((zI_lt ha hb).mp q))]; congr 1; omega
theorem z_min {a b : Int} (ha : zR a) (hb : zR b) : (if zI b < zI a then zI b else zI a) = zI (min a b) := by
  by_cases h : b < a
  · rw [if_pos ((zI_lt hb ha).mpr h)]; congr 1; omega
  · rw [if_neg (fun q => h ((zI_lt hb ha).mp q))]; congr 1; omega
theorem n_max {a b : Nat} (ha : a < 2147483648) (hb : b < 2147483648) : (if nI a < nI b then nI b else nI a) = nI (max a b) := by
  by_cases h : a < b
  · rw [if_pos ((n_lt ha hb).mpr h)]; congr 1; omega
  · rw [if_neg (fun q => h ((n_lt ha hb).mp q))]; congr 1; omega
theorem n_min {a b : Nat} (ha : a < 2147483648) (hb : b < 2147483648) : (if nI b < nI a then nI b else nI a) = nI (min a b) := by
  by_cases h : b < a
  · rw [if_pos ((n_lt hb ha).mpr h)]; congr 1; omega
  · rw [if_neg (fun q => h ((n_lt hb ha).mp q))]; congr 1; omega
theorem z_abs {a : Int} (h : zR a) : (if 0 ≤ zI a then zI a else 0 - zI a) = nI a.natAbs := by
  by_cases q : 0 ≤ a
  · rw [if_pos ((z_ge0 h).mpr q), ← zI_nI]; congr 1; omega
  · rw [if_neg (fun z => q ((z_ge0 h).mp z)), zI_neg, ← zI_nI]; congr 1; omega
theorem zB_iff {P Q : Prop} [Decidable P] [Decidable Q] (h : P ↔ Q) : zB P = zB Q := by
  unfold zB
  by_cases q : P
  · rw [if_pos q, if_pos (h.mp q)]
  · rw [if_neg q, if_neg (fun z => q (h.mpr z))]
theorem zB_1 {P : Prop} [Decidable P] : zB P = 1 ↔ P := by
  unfold zB; split <;> simp [*]
theorem mul_bd {a b : Int} (m k : Int) (ha : -m ≤ a ∧ a ≤ m) (hb : -k ≤ b ∧ b ≤ k) (hm : 0 ≤ m) : -(m * k) ≤ a * b ∧ a * b ≤ m * k := by
  have h1 : a.natAbs ≤ m.natAbs := by omega
  have h2 : b.natAbs ≤ k.natAbs := by omega
  have h3 : (a * b).natAbs ≤ m.natAbs * k.natAbs := by rw [Int.natAbs_mul]; exact Nat.mul_le_mul h1 h2
  have h4 : (m.natAbs : Int) = m := by omega
  have h5 : (k.natAbs : Int) = k := by omega
  have h6 : ((m.natAbs * k.natAbs : Nat) : Int) = m * k := by rw [Int.natCast_mul, h4, h5]
  omega
section ZS
variable {p : Program} {l : Launch} {e : Env} {R : Room} {s : State} {m : MethodId} {args : Array Value} {below : List Frame} {meth : Method} {c : Code} {H : Heap} {locs : List Loc} {cells slots : Nat} {Q : State → Prop}
variable {cc : ByteArray} {nL : Nat} {Ts : List Cond} {own : String} {pc : Nat} {ls : Array Slot} {rest : List Value}
theorem zz_ifb_eq (S : CallFix p m c cc nL s args Ts own) {P : Prop} [Decidable P] {off : Int} {tgt : Nat} (hdg : decode cc pc = .ok (.ifCond .eq off, 3)) (ht : (pc : Int) + off = (tgt : Int)) (kt : ¬ P → W p l e R s m args below meth c H locs cells slots Q (F0 m tgt ls rest)) (kf : P → W p l e R s m args below meth c H locs cells slots Q (F0 m (pc + 3) ls rest)) : W p l e R s m args below meth c H locs cells slots Q (F0 m pc ls (.int (nI (zB P)) :: rest)) := lv_if_eq S.1 S.2.1 hdg ht (fun h => kt (zB_z.mp h)) (fun h => kf (zB_n.mp h))
theorem zz_ifb_ne (S : CallFix p m c cc nL s args Ts own) {P : Prop} [Decidable P] {off : Int} {tgt : Nat} (hdg : decode cc pc = .ok (.ifCond .ne off, 3)) (ht : (pc : Int) + off = (tgt : Int)) (kt : P → W p l e R s m args below meth c H locs cells slots Q (F0 m tgt ls rest)) (kf : ¬ P → W p l e R s m args below meth c H locs cells slots Q (F0 m (pc + 3) ls rest)) : W p l e R s m args below meth c H locs cells slots Q (F0 m pc ls (.int (nI (zB P)) :: rest)) := lv_if_ne S.1 S.2.1 hdg ht (fun h => kt (zB_n.mp h)) (fun h => kf (zB_z.mp h))
end ZS
-- words of a call, out of the one list
theorem zuG {ws : List Cond} (h : ∀ w ∈ ws, w ∈ wU) : GoodIn wU ws := fun w hw => ⟨h w hw, good_of_word (wU_good w (h w hw))⟩
theorem zu0 {c2 : Cond} (h : c2 ∈ wU) : GoodIn wU (c2 :: wU) := zuG (fun w hw => (List.mem_cons.mp hw).elim (fun e => by rw [e]; exact h) id)
theorem zuV {c2 : Cond} {own C : String} {idx : Nat} {y : MethodName} (h : c2 ∈ wU) (h1 : Cond.methodLink own idx y ∈ wU) (h2 : Cond.instanceMethod y ∈ wU) (h3 : Cond.selects C y y ∈ wU) (h4 : Cond.initialized C ∈ wU) : GoodIn wU (wsV own idx C y (c2 :: wU)) := zuG (fun w hw => by
  unfold wsV at hw
  rcases List.mem_append.mp hw with q | q
  · simp only [List.mem_cons, List.not_mem_nil, or_false] at q
    rcases q with e | e | e | e <;> rw [e] <;> assumption
  · exact (zu0 h w q).1)
theorem zuS {c2 : Cond} {own : String} {idx : Nat} {y : MethodName} (h : c2 ∈ wU) (h1 : Cond.methodLink own idx y ∈ wU) (h2 : Cond.static y ∈ wU) (h4 : Cond.initialized y.cls ∈ wU) : GoodIn wU (va_wsS own idx y (c2 :: wU)) := zuG (fun w hw => by
  unfold va_wsS at hw
  rcases List.mem_append.mp hw with q | q
  · simp only [List.mem_cons, List.not_mem_nil, or_false] at q
    rcases q with e | e | e <;> rw [e] <;> assumption
  · exact (zu0 h w q).1)
-- ===== the cells =====
abbrev zA (cI : ClassId) (n : Nat) (f : Nat → Nat) : va_E := .inl (cI, n, .inl (fun j => nI (f j)))
abbrev zAR (cR : ClassId) (n : Nat) (f : Nat → Option Nat) : va_E := .inl (cR, n, .inr (.inr (.inr (.inr f))))
-- ===== what the planner's numbers are: n strokes, pens P by stroke, X and Y by code (where it begins), the plan L by position =====
theorem sw_e (t : Nat) : sw (2 * t) = 2 * t + 1 := by unfold sw; split <;> omega
theorem sw_o (t : Nat) : sw (2 * t + 1) = 2 * t := by unfold sw; split <;> omega
theorem sw_lt {c n : Nat} (h : c < 2 * n) : sw c < 2 * n := by unfold sw; split <;> omega
theorem sw_half (c : Nat) : sw c / 2 = c / 2 := by unfold sw; split <;> omega
def zfar (a b : Int) : Nat := max a.natAbs b.natAbs
def oX (X : Nat → Nat) (c : Int) : Nat := if c < 0 then 0 else X (sw c.toNat)
def oP (P : Nat → Nat) (c : Int) : Int := if c < 0 then -1 else (P (c.toNat / 2) : Int)
theorem oX_n (X : Nat → Nat) (c : Nat) : oX X (c : Int) = X (sw c) := by
  unfold oX; rw [if_neg (by omega)]; rfl
theorem oP_n (P : Nat → Nat) (c : Nat) : oP P (c : Int) = P (c / 2) := by
  unfold oP; rw [if_neg (by omega)]; rfl
def stp (P X Y : Nat → Nat) (C : Nat) (a : Int) (b : Nat) : Nat := zfar ((oX X a : Int) - (X b : Int)) ((oX Y a : Int) - (Y b : Int)) + (if oP P a = oP P (b : Int) then 0 else C)
def prv (L : Nat → Nat) : Nat → Int
  | 0 => -1
  | k + 1 => (L k : Int)
def zs (f : Nat → Nat) : Nat → Nat
  | 0 => 0
  | k + 1 => zs f k + f k
theorem zs_le {f : Nat → Nat} {m : Nat} : ∀ {n : Nat}, (∀ k, k < n → f k ≤ m) → zs f n ≤ n * m
  | 0, _ => by simp [zs]
  | n + 1, h => by
    have h1 := zs_le (f := f) (m := m) (n := n) (fun k hk => h k (by omega))
    have h2 := h n (by omega)
    simp only [zs, Nat.succ_mul]; omega
theorem zs_congr {f g : Nat → Nat} : ∀ {n : Nat}, (∀ k, k < n → f k = g k) → zs f n = zs g n
  | 0, _ => rfl
  | n + 1, h => by
    simp only [zs]; rw [zs_congr (fun k hk => h k (by omega)), h n (by omega)]
abbrev lnk (n : Nat) (P X Y L : Nat → Nat) (k : Nat) : Prop := k + 1 < n ∧ P (L k / 2) = P (L (k + 1) / 2) ∧ X (sw (L k)) = X (L (k + 1)) ∧ Y (sw (L k)) = Y (L (k + 1))
abbrev alk (P X Y : Nat → Nat) (s t : Nat) : Prop := P s = P t ∧ ((X (2 * s) = X (2 * t) ∧ Y (2 * s) = Y (2 * t) ∧ X (2 * s + 1) = X (2 * t + 1) ∧ Y (2 * s + 1) = Y (2 * t + 1)) ∨ (X (2 * s) = X (2 * t + 1) ∧ Y (2 * s) = Y (2 * t + 1) ∧ X (2 * s + 1) = X (2 * t) ∧ Y (2 * s + 1) = Y (2 * t)))
abbrev lon (X Y : Nat → Nat) (c t : Nat) : Prop := ((X (2 * t + 1) : Int) - X (2 * t)) * ((Y c : Int) - Y (2 * t)) = ((Y (2 * t + 1) : Int) - Y (2 * t)) * ((X c : Int) - X (2 * t)) ∧ (min (X (2 * t)) (X (2 * t + 1)) ≤ X c ∧ X c ≤ max (X (2 * t)) (X (2 * t + 1))) ∧ (min (Y (2 * t)) (Y (2 * t + 1)) ≤ Y c ∧ Y c ≤ max (Y (2 * t)) (Y (2 * t + 1)))
abbrev cov (P X Y : Nat → Nat) (t s : Nat) : Prop := P t = P s ∧ ¬ alk P X Y t s ∧ lon X Y (2 * s) t ∧ lon X Y (2 * s + 1) t
def ffn (Q : Nat → Prop) [DecidablePred Q] : Nat → Nat → Int
  | 0, _ => -3
  | f + 1, k => if Q k then (k : Int) else ffn Q f (k + 1)
theorem ffn_e {Q : Nat → Prop} [DecidablePred Q] {n k : Nat} (h : n ≤ k) : ffn Q (n - k) k = -3 := by
  rw [Nat.sub_eq_zero_of_le h]; rfl
theorem ffn_t {Q : Nat → Prop} [DecidablePred Q] {n k : Nat} (h : k < n) (q : Q k) : ffn Q (n - k) k = k := by
  obtain ⟨d, hd⟩ : ∃ d, n - k = d + 1 := ⟨n - k - 1, by omega⟩
  rw [hd]; simp only [ffn]; rw [if_pos q]
theorem ffn_f {Q : Nat → Prop} [DecidablePred Q] {n k : Nat} (h : k < n) (q : ¬ Q k) : ffn Q (n - k) k = ffn Q (n - (k + 1)) (k + 1) := by
  obtain ⟨d, hd⟩ : ∃ d, n - k = d + 1 := ⟨n - k - 1, by omega⟩
  rw [hd]; simp only [ffn]; rw [if_neg q, show n - (k + 1) = d by omega]
def dxx (X : Nat → Nat) (c : Nat) : Int := (X (sw c) : Int) - (X c : Int)
def crn (X Y : Nat → Nat) (V a b : Nat) : Nat := if dxx X a * dxx X b + dxx Y a * dxx Y b ≤ 0 then 0 else if dxx X a * dxx Y b = dxx Y a * dxx X b then V else V / 4
def lng (X Y : Nat → Nat) (c : Nat) : Nat := zfar (dxx X c) (dxx Y c)
abbrev inS (S c : Nat) : Prop := S / 2 ^ (c / 2) % 2 = 1
/-- the first of the least, among those of m that are in Q; -1: none -/
def amf (Q : Nat → Prop) [DecidablePred Q] (g : Nat → Nat) : Nat → Int
  | 0 => -1
  | k + 1 => if Q k ∧ (amf Q g k = -1 ∨ g k < g (amf Q g k).toNat) then (k : Int) else amf Q g k
/-- the index of the run in which position k lies -/
def rnk (n : Nat) (P X Y L : Nat → Nat) : Nat → Nat := zs (fun j => 1 - zB (lnk n P X Y L j))
/-- all is as it should be -/
def zOk (n : Nat) (P X Y L : Nat → Nat) : Prop := n ≤ 8 ∧ (∀ s, s < n → P s ≤ 3) ∧ (∀ c, c < 2 * n → X c ≤ 99 ∧ Y c ≤ 99) ∧ (∀ k, k < n → L k < 2 * n) ∧ (∀ i j, i < n → j < n → L i / 2 = L j / 2 → i = j)
end
section
theorem zfar_le {x1 x2 y1 y2 : Nat} (h : x1 ≤ 99 ∧ y1 ≤ 99 ∧ x2 ≤ 99 ∧ y2 ≤ 99) : zfar ((x1 : Int) - (x2 : Int)) ((y1 : Int) - (y2 : Int)) ≤ 99 := by unfold zfar; omega
theorem oX_le {a : Int} {X : Nat → Nat} {n : Nat} (h : ∀ c, c < 2 * n → X c ≤ 99) (ha : -1 ≤ a ∧ a < 2 * (n : Int)) : oX X a ≤ 99 := by
  unfold oX
  split
  · omega
  · exact h _ (sw_lt (by omega))
theorem oP_le {a : Int} {P : Nat → Nat} {n : Nat} (h : ∀ s, s < n → P s ≤ 3) (ha : -1 ≤ a ∧ a < 2 * (n : Int)) : -1 ≤ oP P a ∧ oP P a ≤ 3 := by
  unfold oP
  split
  · omega
  · have := h (a.toNat / 2) (by omega)
    omega
theorem stp_le {P X Y : Nat → Nat} {C : Nat} {a : Int} {b n : Nat} (h : ∀ c, c < 2 * n → X c ≤ 99 ∧ Y c ≤ 99) (ha : -1 ≤ a ∧ a < 2 * (n : Int)) (hb : b < 2 * n) : stp P X Y C a b ≤ 99 + C := by
  have h1 := oX_le (a := a) (fun c q => (h c q).1) ha
  have h2 := oX_le (a := a) (fun c q => (h c q).2) ha
  have h3 := h b hb
  have h4 := zfar_le (x1 := oX X a) (x2 := X b) (y1 := oX Y a) (y2 := Y b) (by omega)
  unfold stp
  split <;> omega
theorem lng_le {X Y : Nat → Nat} {c n : Nat} (h : ∀ c, c < 2 * n → X c ≤ 99 ∧ Y c ≤ 99) (hc : c < 2 * n) : lng X Y c ≤ 99 := by
  have h1 := h c hc
  have h2 := h (sw c) (sw_lt hc)
  unfold lng dxx
  exact zfar_le (by omega)
theorem crn_le (X Y : Nat → Nat) (V a b : Nat) : crn X Y V a b ≤ V := by
  unfold crn
  split
  · omega
  · split <;> omega
theorem rnk_le (n : Nat) (P X Y L : Nat → Nat) (k : Nat) : rnk n P X Y L k ≤ k := by
  have := zs_le (f := fun j => 1 - zB (lnk n P X Y L j)) (m := 1) (n := k) (fun _ _ => by omega)
  unfold rnk; omega
theorem rnk_t {n : Nat} {P X Y L : Nat → Nat} {k : Nat} (h : lnk n P X Y L k) : rnk n P X Y L (k + 1) = rnk n P X Y L k := by
  show zs _ k + (1 - zB (lnk n P X Y L k)) = zs _ k
  rw [zB_t h]; rfl
theorem rnk_f {n : Nat} {P X Y L : Nat → Nat} {k : Nat} (h : ¬ lnk n P X Y L k) : rnk n P X Y L (k + 1) = rnk n P X Y L k + 1 := by
  show zs _ k + (1 - zB (lnk n P X Y L k)) = zs _ k + 1
  rw [zB_f h]
def amv (Q : Nat → Prop) [DecidablePred Q] (g : Nat → Nat) (k : Nat) : Nat := if amf Q g k = -1 then 0 else g (amf Q g k).toNat
theorem amf_rng (Q : Nat → Prop) [DecidablePred Q] (g : Nat → Nat) : ∀ k : Nat, -1 ≤ amf Q g k ∧ amf Q g k < (k : Int)
  | 0 => by simp [amf]
  | k + 1 => by
    have h := amf_rng Q g k
    simp only [amf]
    split <;> omega
theorem amv_le {Q : Nat → Prop} [DecidablePred Q] {g : Nat → Nat} {k m : Nat} (h : ∀ j, j < k → g j ≤ m) : amv Q g k ≤ m := by
  have h1 := amf_rng Q g k
  unfold amv
  split
  · omega
  · exact h _ (by omega)
theorem amf_skip {Q : Nat → Prop} [DecidablePred Q] {g : Nat → Nat} {k : Nat} (h : ¬ Q k) : amf Q g (k + 1) = amf Q g k ∧ amv Q g (k + 1) = amv Q g k := by
  have h1 : amf Q g (k + 1) = amf Q g k := by simp only [amf]; rw [if_neg (fun q => h q.1)]
  exact ⟨h1, by unfold amv; rw [h1]⟩
theorem amf_keep {Q : Nat → Prop} [DecidablePred Q] {g : Nat → Nat} {k : Nat} (h0 : ¬ amf Q g k = -1) (h : ¬ g k < amv Q g k) : amf Q g (k + 1) = amf Q g k ∧ amv Q g (k + 1) = amv Q g k := by
  have h1 : amf Q g (k + 1) = amf Q g k := by
    simp only [amf]
    rw [if_neg]
    intro q
    rcases q.2 with e | e
    · exact h0 e
    · apply h; unfold amv; rw [if_neg h0]; exact e
  exact ⟨h1, by unfold amv; rw [h1]⟩
theorem amf_take {Q : Nat → Prop} [DecidablePred Q] {g : Nat → Nat} {k : Nat} (hQ : Q k) (h : amf Q g k = -1 ∨ g k < amv Q g k) : amf Q g (k + 1) = (k : Int) ∧ amv Q g (k + 1) = g k := by
  have h1 : amf Q g (k + 1) = (k : Int) := by
    simp only [amf]
    rw [if_pos]
    refine ⟨hQ, ?_⟩
    by_cases h0 : amf Q g k = -1
    · exact Or.inl h0
    · rcases h with e | e
      · exact absurd e h0
      · unfold amv at e; rw [if_neg h0] at e; exact Or.inr e
  refine ⟨h1, ?_⟩
  unfold amv; rw [h1, if_neg (by omega)]; rfl
theorem zs_t {P : Nat → Prop} [DecidablePred P] {k : Nat} (h : P k) : zs (fun j => zB (P j)) (k + 1) = zs (fun j => zB (P j)) k + 1 := by
  show zs _ k + zB (P k) = _
  rw [zB_t h]
theorem zs_f {P : Nat → Prop} [DecidablePred P] {k : Nat} (h : ¬ P k) : zs (fun j => zB (P j)) (k + 1) = zs (fun j => zB (P j)) k := by
  show zs _ k + zB (P k) = _
  rw [zB_f h]; rfl
theorem prv_rng {L : Nat → Nat} {n : Nat} (h : ∀ k, k < n → L k < 2 * n) : ∀ {k : Nat}, k ≤ n → -1 ≤ prv L k ∧ prv L k < 2 * (n : Int)
  | 0, _ => by simp only [prv]; omega
  | k + 1, hk => by
    have := h k (by omega)
    simp only [prv]; omega
theorem cst_le {P X Y L : Nat → Nat} {C n k : Nat} (h : ∀ c, c < 2 * n → X c ≤ 99 ∧ Y c ≤ 99) (hL : ∀ k, k < n → L k < 2 * n) (hC : C ≤ 500) (hk : k < n) : stp P X Y C (prv L k) (L k) ≤ 599 := by
  have := stp_le (P := P) (X := X) (Y := Y) (C := C) (a := prv L k) (b := L k) h (prv_rng hL (by omega)) (hL k hk)
  omega
theorem ffn_rng' (Q : Nat → Prop) [DecidablePred Q] : ∀ (f k : Nat), ffn Q f k = -3 ∨ ((k : Int) ≤ ffn Q f k ∧ ffn Q f k < ((k + f : Nat) : Int) ∧ Q (ffn Q f k).toNat)
  | 0, k => Or.inl rfl
  | f + 1, k => by
    simp only [ffn]
    by_cases q : Q k
    · rw [if_pos q]; exact Or.inr ⟨by omega, by omega, by simpa using q⟩
    · rw [if_neg q]
      rcases ffn_rng' Q f (k + 1) with h | ⟨h1, h2, h3⟩
      · exact Or.inl h
      · exact Or.inr ⟨by omega, by omega, h3⟩
theorem ffn_rng (Q : Nat → Prop) [DecidablePred Q] (n : Nat) : -3 ≤ ffn Q n 0 ∧ ffn Q n 0 < (n : Int) := by
  rcases ffn_rng' Q n 0 with h | ⟨h1, h2, h3⟩ <;> omega
theorem crn_0 {X Y : Nat → Nat} {V a b : Nat} (h : dxx X a * dxx X b + dxx Y a * dxx Y b ≤ 0) : crn X Y V a b = 0 := if_pos h
theorem crn_1 {X Y : Nat → Nat} {V a b : Nat} (h : ¬ dxx X a * dxx X b + dxx Y a * dxx Y b ≤ 0) (h2 : dxx X a * dxx Y b = dxx Y a * dxx X b) : crn X Y V a b = V := (if_neg h).trans (if_pos h2)
theorem crn_4 {X Y : Nat → Nat} {V a b : Nat} (h : ¬ dxx X a * dxx X b + dxx Y a * dxx Y b ≤ 0) (h2 : ¬ dxx X a * dxx Y b = dxx Y a * dxx X b) : crn X Y V a b = V / 4 := (if_neg h).trans (if_neg h2)
end
section
abbrev wm_X5_isWithin : List Cond := .code yX5_isWithin cX5_isWithin 3 (some .boolean) :: wU
theorem q_X5_isWithin : yX5_isWithin.cls = RX5 ∧ yX5_isWithin.cls ≠ "java/lang/invoke/MethodHandle" ∧ yX5_isWithin.cls ≠ "java/lang/invoke/VarHandle" ∧ (parseMethodDescriptor yX5_isWithin.desc).map (fun d => d.parameters.length) = some 3 := by decide +kernel
set_option maxHeartbeats 4000000 in
set_option maxRecDepth 100000 in
theorem c_X5_isWithin (l : Launch) (D : va_G) (cI cR : ClassId) (v : Int) (lo : Int) (hi : Int) (hv : zR v) (hlo : zR lo) (hhi : zR hi) : Met l yX5_isWithin wm_X5_isWithin ({ frames := 0, cells := 0, slots := 0, locals := 0 } : Room) (va_Pc [.int (zI v), .int (zI lo), .int (zI hi)] (fun _ => True)) (vp_Si (fun r => r = nI (zB (lo ≤ v ∧ v ≤ hi)))) 0 0 (fun _ => False) := by
  refine Met.ofW (cc := cX5_isWithin) (maxL := 3) (ret := (some .boolean)) (by decide) rfl ?_
  intro p e s m args below meth c s₁ B hml hv
  obtain ⟨rfl, hG⟩ := hv
  have S : CallFix p m c cX5_isWithin 3 s ([.int (zI v), .int (zI lo), .int (zI hi)] : List Value).toArray wU RX5 := ⟨B.exec, B.bytes, hml, findClass_of_methodNamed B.named, fun w h => atoms_spec (ws := wm_X5_isWithin) B.pre w (List.mem_cons_of_mem _ h)⟩
  have hr := B.returns
  have hlocks := B.notSynchronized
  have hl := lv_entry ([.int (zI v), .int (zI lo), .int (zI hi)]) (n := 3) (Nat.le_of_ble_eq_true rfl)
  rw [lg_entry_eq]
  generalize (lg_sl ([.int (zI v), .int (zI lo), .int (zI hi)]) ++ List.replicate (3 - (lg_sl ([.int (zI v), .int (zI lo), .int (zI hi)])).length) Slot.unset).toArray = ls at hl ⊢
  have hl : lv_has ls 3 [(0, .int (zI v)), (1, .int (zI lo)), (2, .int (zI hi))] := hl
  have r_hv := id hv
  unfold zR at r_hv
  have r_hlo := id hlo
  unfold zR at r_hlo
  have r_hhi := id hhi
  unfold zR at r_hhi
  refine lv_iload_n (pc := 0) S.1 S.2.1 dX5_isWithin_0 rfl (lv_at hl 0 rfl) ?_
  refine lv_iload_n (pc := 1) S.1 S.2.1 dX5_isWithin_1 rfl (lv_at hl 1 rfl) ?_
  refine zz_icmp_lt (pc := 2) (tgt := 14) S dX5_isWithin_2 (by decide) (zI_lt (a := v) (b := lo) (by unfold zR; omega) (by unfold zR; omega)) (fun c2 => ?_) (fun c2 => ?_)
  · refine zz_iconst (pc := 14) (v := nI 0) S dX5_isWithin_14 rfl ?_
    exact zz_bretS (pc := 15) S hr hlocks (by decide) (congrArg nI (zB_f (by first | omega | rfl)).symm) dX5_isWithin_15
  · refine lv_iload_n (pc := 5) S.1 S.2.1 dX5_isWithin_5 rfl (lv_at hl 0 rfl) ?_
    refine lv_iload_n (pc := 6) S.1 S.2.1 dX5_isWithin_6 rfl (lv_at hl 2 rfl) ?_
    refine zz_icmp_gt (pc := 7) (tgt := 14) S dX5_isWithin_7 (by decide) (zI_lt (a := hi) (b := v) (by unfold zR; omega) (by unfold zR; omega)) (fun c7 => ?_) (fun c7 => ?_)
    · refine zz_iconst (pc := 14) (v := nI 0) S dX5_isWithin_14 rfl ?_
      exact zz_bretS (pc := 15) S hr hlocks (by decide) (congrArg nI (zB_f (by first | omega | rfl)).symm) dX5_isWithin_15
    · refine zz_iconst (pc := 10) (v := nI 1) S dX5_isWithin_10 rfl ?_
      refine lv_goto (pc := 11) (tgt := 15) S.1 S.2.1 dX5_isWithin_11 (by decide) ?_
      exact zz_bretS (pc := 15) S hr hlocks (by decide) (congrArg nI (zB_t (by first | omega | rfl)).symm) dX5_isWithin_15
abbrev wm_X5_isPoint : List Cond := .code yX5_isPoint cX5_isPoint 2 (some .boolean) :: wU
theorem q_X5_isPoint : yX5_isPoint.cls = RX5 ∧ yX5_isPoint.cls ≠ "java/lang/invoke/MethodHandle" ∧ yX5_isPoint.cls ≠ "java/lang/invoke/VarHandle" ∧ (parseMethodDescriptor yX5_isPoint.desc).map (fun d => d.parameters.length) = some 2 := by decide +kernel
set_option maxHeartbeats 4000000 in
set_option maxRecDepth 100000 in
theorem c_X5_isPoint (l : Launch) (D : va_G) (cI cR : ClassId) (x : Int) (y : Int) (hx : zR x) (hy : zR y) : Met l yX5_isPoint wm_X5_isPoint ({ frames := 1, cells := 0, slots := 0, locals := 22 } : Room) (va_Pc [.int (zI x), .int (zI y)] (fun _ => True)) (vp_Si (fun r => r = nI (zB ((0 ≤ x ∧ x ≤ 99) ∧ 0 ≤ y ∧ y ≤ 99)))) 0 0 (fun _ => False) := by
  refine Met.ofW (cc := cX5_isPoint) (maxL := 2) (ret := (some .boolean)) (by decide) rfl ?_
  intro p e s m args below meth c s₁ B hml hv
  obtain ⟨rfl, hG⟩ := hv
  have S : CallFix p m c cX5_isPoint 2 s ([.int (zI x), .int (zI y)] : List Value).toArray wU RX5 := ⟨B.exec, B.bytes, hml, findClass_of_methodNamed B.named, fun w h => atoms_spec (ws := wm_X5_isPoint) B.pre w (List.mem_cons_of_mem _ h)⟩
  have hr := B.returns
  have hlocks := B.notSynchronized
  have hl := lv_entry ([.int (zI x), .int (zI y)]) (n := 2) (Nat.le_of_ble_eq_true rfl)
  rw [lg_entry_eq]
  generalize (lg_sl ([.int (zI x), .int (zI y)]) ++ List.replicate (2 - (lg_sl ([.int (zI x), .int (zI y)])).length) Slot.unset).toArray = ls at hl ⊢
  have hl : lv_has ls 2 [(0, .int (zI x)), (1, .int (zI y))] := hl
  have r_hx := id hx
  unfold zR at r_hx
  have r_hy := id hy
  unfold zR at r_hy
  refine lv_iload_n (pc := 0) S.1 S.2.1 dX5_isPoint_0 rfl (lv_at hl 0 rfl) ?_
  refine zz_iconst (pc := 1) (v := nI 0) S dX5_isPoint_1 rfl ?_
  refine zz_bipush (pc := 2) (v := nI 99) S dX5_isPoint_2 rfl ?_
  refine zz_callS (pc := 4) (As := [.int (zI x), .int (zI 0), .int (zI 99)]) (rest := []) S (c_X5_isWithin l D cI cR x 0 99 (by unfold zR; omega) (by unfold zR; omega) (by unfold zR; omega)) (zuS wd_85 wd_83 wd_84 wd_2) 3 rfl q_X5_isWithin.2 ⟨⟨rfl, rfl⟩, Nat.le_of_ble_eq_true rfl, Nat.le_of_ble_eq_true rfl⟩ rfl rfl (Nat.le_of_ble_eq_true rfl) hl.1 ⟨Nat.zero_le _, Nat.zero_le _⟩ dX5_isPoint_4 ?_
  refine zz_ifb_eq (pc := 7) (tgt := 24) S dX5_isPoint_7 (by decide) (fun c7 => ?_) (fun c7 => ?_)
  · refine zz_iconst (pc := 24) (v := nI 0) S dX5_isPoint_24 rfl ?_
    exact zz_bretS (pc := 25) S hr hlocks (by decide) (congrArg nI (zB_f (by first | omega | rfl)).symm) dX5_isPoint_25
  · refine lv_iload_n (pc := 10) S.1 S.2.1 dX5_isPoint_10 rfl (lv_at hl 1 rfl) ?_
    refine zz_iconst (pc := 11) (v := nI 0) S dX5_isPoint_11 rfl ?_
    refine zz_bipush (pc := 12) (v := nI 99) S dX5_isPoint_12 rfl ?_
    refine zz_callS (pc := 14) (As := [.int (zI y), .int (zI 0), .int (zI 99)]) (rest := []) S (c_X5_isWithin l D cI cR y 0 99 (by unfold zR; omega) (by unfold zR; omega) (by unfold zR; omega)) (zuS wd_85 wd_83 wd_84 wd_2) 3 rfl q_X5_isWithin.2 ⟨⟨rfl, rfl⟩, Nat.le_of_ble_eq_true rfl, Nat.le_of_ble_eq_true rfl⟩ rfl rfl (Nat.le_of_ble_eq_true rfl) hl.1 ⟨Nat.zero_le _, Nat.zero_le _⟩ dX5_isPoint_14 ?_
    refine zz_ifb_eq (pc := 17) (tgt := 24) S dX5_isPoint_17 (by decide) (fun c17 => ?_) (fun c17 => ?_)
    · refine zz_iconst (pc := 24) (v := nI 0) S dX5_isPoint_24 rfl ?_
      exact zz_bretS (pc := 25) S hr hlocks (by decide) (congrArg nI (zB_f (by first | omega | rfl)).symm) dX5_isPoint_25
    · refine zz_iconst (pc := 20) (v := nI 1) S dX5_isPoint_20 rfl ?_
      refine lv_goto (pc := 21) (tgt := 25) S.1 S.2.1 dX5_isPoint_21 (by decide) ?_
      exact zz_bretS (pc := 25) S hr hlocks (by decide) (congrArg nI (zB_t (by first | omega | rfl)).symm) dX5_isPoint_25
abbrev wm_X5_isPen : List Cond := .code yX5_isPen cX5_isPen 1 (some .boolean) :: wU
theorem q_X5_isPen : yX5_isPen.cls = RX5 ∧ yX5_isPen.cls ≠ "java/lang/invoke/MethodHandle" ∧ yX5_isPen.cls ≠ "java/lang/invoke/VarHandle" ∧ (parseMethodDescriptor yX5_isPen.desc).map (fun d => d.parameters.length) = some 1 := by decide +kernel
set_option maxHeartbeats 4000000 in
set_option maxRecDepth 100000 in
theorem c_X5_isPen (l : Launch) (D : va_G) (cI cR : ClassId) (x : Int) (hx : zR x) : Met l yX5_isPen wm_X5_isPen ({ frames := 1, cells := 0, slots := 0, locals := 22 } : Room) (va_Pc [.int (zI x)] (fun _ => True)) (vp_Si (fun r => r = nI (zB (0 ≤ x ∧ x ≤ 3)))) 0 0 (fun _ => False) := by
  refine Met.ofW (cc := cX5_isPen) (maxL := 1) (ret := (some .boolean)) (by decide) rfl ?_
  intro p e s m args below meth c s₁ B hml hv
  obtain ⟨rfl, hG⟩ := hv
  have S : CallFix p m c cX5_isPen 1 s ([.int (zI x)] : List Value).toArray wU RX5 := ⟨B.exec, B.bytes, hml, findClass_of_methodNamed B.named, fun w h => atoms_spec (ws := wm_X5_isPen) B.pre w (List.mem_cons_of_mem _ h)⟩
  have hr := B.returns
  have hlocks := B.notSynchronized
  have hl := lv_entry ([.int (zI x)]) (n := 1) (Nat.le_of_ble_eq_true rfl)
  rw [lg_entry_eq]
  generalize (lg_sl ([.int (zI x)]) ++ List.replicate (1 - (lg_sl ([.int (zI x)])).length) Slot.unset).toArray = ls at hl ⊢
  have hl : lv_has ls 1 [(0, .int (zI x))] := hl
  have r_hx := id hx
  unfold zR at r_hx
  refine lv_iload_n (pc := 0) S.1 S.2.1 dX5_isPen_0 rfl (lv_at hl 0 rfl) ?_
  refine zz_iconst (pc := 1) (v := nI 0) S dX5_isPen_1 rfl ?_
  refine zz_iconst (pc := 2) (v := nI 3) S dX5_isPen_2 rfl ?_
  refine zz_callS (pc := 3) (As := [.int (zI x), .int (zI 0), .int (zI 3)]) (rest := []) S (c_X5_isWithin l D cI cR x 0 3 (by unfold zR; omega) (by unfold zR; omega) (by unfold zR; omega)) (zuS wd_85 wd_83 wd_84 wd_2) 3 rfl q_X5_isWithin.2 ⟨⟨rfl, rfl⟩, Nat.le_of_ble_eq_true rfl, Nat.le_of_ble_eq_true rfl⟩ rfl rfl (Nat.le_of_ble_eq_true rfl) hl.1 ⟨Nat.zero_le _, Nat.zero_le _⟩ dX5_isPen_3 ?_
  exact zz_bretS (pc := 6) S hr hlocks (zB_nar _) (rfl) dX5_isPen_6
abbrev wm_X1_wayLength : List Cond := .code yX1_wayLength cX1_wayLength 4 (some .int) :: wU
theorem q_X1_wayLength : yX1_wayLength.cls = RX1 ∧ yX1_wayLength.cls ≠ "java/lang/invoke/MethodHandle" ∧ yX1_wayLength.cls ≠ "java/lang/invoke/VarHandle" ∧ (parseMethodDescriptor yX1_wayLength.desc).map (fun d => d.parameters.length) = some 4 := by decide +kernel
set_option maxHeartbeats 4000000 in
set_option maxRecDepth 100000 in
theorem c_X1_wayLength (l : Launch) (D : va_G) (cI cR : ClassId) (x1 : Nat) (y1 : Nat) (x2 : Nat) (y2 : Nat) (hb : x1 ≤ 99 ∧ y1 ≤ 99 ∧ x2 ≤ 99 ∧ y2 ≤ 99) : Met l yX1_wayLength wm_X1_wayLength ({ frames := 1, cells := 0, slots := 0, locals := 14 } : Room) (va_Pc [.int (nI x1), .int (nI y1), .int (nI x2), .int (nI y2)] (fun _ => True)) (vp_Si (fun r => r = nI (zfar ((x1 : Int) - (x2 : Int)) ((y1 : Int) - (y2 : Int))))) 0 0 (fun _ => False) := by
  refine Met.ofW (cc := cX1_wayLength) (maxL := 4) (ret := (some .int)) (by decide) rfl ?_
  intro p e s m args below meth c s₁ B hml hv
  obtain ⟨rfl, hG⟩ := hv
  have S : CallFix p m c cX1_wayLength 4 s ([.int (nI x1), .int (nI y1), .int (nI x2), .int (nI y2)] : List Value).toArray wU RX1 := ⟨B.exec, B.bytes, hml, findClass_of_methodNamed B.named, fun w h => atoms_spec (ws := wm_X1_wayLength) B.pre w (List.mem_cons_of_mem _ h)⟩
  have hr := B.returns
  have hlocks := B.notSynchronized
  have hl := lv_entry ([.int (nI x1), .int (nI y1), .int (nI x2), .int (nI y2)]) (n := 4) (Nat.le_of_ble_eq_true rfl)
  rw [lg_entry_eq]
  generalize (lg_sl ([.int (nI x1), .int (nI y1), .int (nI x2), .int (nI y2)]) ++ List.replicate (4 - (lg_sl ([.int (nI x1), .int (nI y1), .int (nI x2), .int (nI y2)])).length) Slot.unset).toArray = ls at hl ⊢
  have hl : lv_has ls 4 [(0, .int (nI x1)), (1, .int (nI y1)), (2, .int (nI x2)), (3, .int (nI y2))] := hl
  refine lv_iload_n (pc := 0) S.1 S.2.1 dX1_wayLength_0 rfl (lv_at hl 0 rfl) ?_
  refine lv_iload_n (pc := 1) S.1 S.2.1 dX1_wayLength_1 rfl (lv_at hl 2 rfl) ?_
  refine zz_isub (pc := 2) (v := zI (((x1 : Nat) : Int) - ((x2 : Nat) : Int))) S dX1_wayLength_2 (zI_sub ((x1 : Nat) : Int) ((x2 : Nat) : Int)) ?_
  refine zz_abs (pc := 3) (v := nI (Int.natAbs (((x1 : Nat) : Int) - ((x2 : Nat) : Int)))) S wd_412 wd_413 wd_106 wd_414 ⟨Nat.le_of_ble_eq_true rfl, Nat.le_of_ble_eq_true rfl⟩ ⟨Nat.zero_le _, Nat.zero_le _⟩ hl.1 dX1_wayLength_3 (z_abs (by unfold zR; omega)) ?_
  refine lv_iload_n (pc := 6) S.1 S.2.1 dX1_wayLength_6 rfl (lv_at hl 1 rfl) ?_
  refine lv_iload_n (pc := 7) S.1 S.2.1 dX1_wayLength_7 rfl (lv_at hl 3 rfl) ?_
  refine zz_isub (pc := 8) (v := zI (((y1 : Nat) : Int) - ((y2 : Nat) : Int))) S dX1_wayLength_8 (zI_sub ((y1 : Nat) : Int) ((y2 : Nat) : Int)) ?_
  refine zz_abs (pc := 9) (v := nI (Int.natAbs (((y1 : Nat) : Int) - ((y2 : Nat) : Int)))) S wd_412 wd_413 wd_106 wd_414 ⟨Nat.le_of_ble_eq_true rfl, Nat.le_of_ble_eq_true rfl⟩ ⟨Nat.zero_le _, Nat.zero_le _⟩ hl.1 dX1_wayLength_9 (z_abs (by unfold zR; omega)) ?_
  refine zz_max (pc := 12) (v := nI (max (Int.natAbs (((x1 : Nat) : Int) - ((x2 : Nat) : Int))) (Int.natAbs (((y1 : Nat) : Int) - ((y2 : Nat) : Int))))) S wd_248 wd_249 wd_106 wd_250 ⟨Nat.le_of_ble_eq_true rfl, Nat.le_of_ble_eq_true rfl⟩ ⟨Nat.zero_le _, Nat.zero_le _⟩ hl.1 dX1_wayLength_12 (n_max (by omega) (by omega)) ?_
  exact zz_iretS (pc := 15) S hr hlocks (congrArg nI (by rfl)) dX1_wayLength_15
abbrev wm_X1_size : List Cond := .code yX1_size cX1_size 1 (some .int) :: wU
theorem q_X1_size : yX1_size.cls = RX1 ∧ yX1_size.cls ≠ "java/lang/invoke/MethodHandle" ∧ yX1_size.cls ≠ "java/lang/invoke/VarHandle" ∧ (parseMethodDescriptor yX1_size.desc).map (fun d => d.parameters.length) = some 0 := by decide +kernel
set_option maxHeartbeats 4000000 in
set_option maxRecDepth 100000 in
theorem c_X1_size (l : Launch) (D : va_G) (cI cR : ClassId) (d e1 e2 e3 e4 n : Nat) (P X Y L : Nat → Nat) (hok : zOk n P X Y L) : Met l yX1_size wm_X1_size ({ frames := 0, cells := 0, slots := 0, locals := 0 } : Room) (va_Pc [.ref d] (zW D cI cR [(d, .inr (1, [.int (nI n), .ref e1, .ref e2, .ref e3, .ref e4])), (e1, zA cI 8 P), (e2, zA cI 16 X), (e3, zA cI 16 Y), (e4, zA cI 8 L)])) (vp_Si (fun r => r = nI n)) 0 0 (fun _ => False) := by
  refine Met.ofW (cc := cX1_size) (maxL := 1) (ret := (some .int)) (by decide) rfl ?_
  intro p e s m args below meth c s₁ B hml hv
  obtain ⟨rfl, hG⟩ := hv
  have S : CallFix p m c cX1_size 1 s ([.ref d] : List Value).toArray wU RX1 := ⟨B.exec, B.bytes, hml, findClass_of_methodNamed B.named, fun w h => atoms_spec (ws := wm_X1_size) B.pre w (List.mem_cons_of_mem _ h)⟩
  have hr := B.returns
  have hlocks := B.notSynchronized
  have hG : zG D cI cR [(d, .inr (1, [.int (nI n), .ref e1, .ref e2, .ref e3, .ref e4])), (e1, zA cI 8 P), (e2, zA cI 16 X), (e3, zA cI 16 Y), (e4, zA cI 8 L)] s s.heap := hG
  have hl := lv_entry ([.ref d]) (n := 1) (Nat.le_of_ble_eq_true rfl)
  rw [lg_entry_eq]
  generalize (lg_sl ([.ref d]) ++ List.replicate (1 - (lg_sl ([.ref d])).length) Slot.unset).toArray = ls at hl ⊢
  have hl : lv_has ls 1 [(0, .ref d)] := hl
  obtain ⟨hn, hPf, hXY, hLf, hinj⟩ := id hok
  refine lv_aload_n (pc := 0) S.1 S.2.1 dX1_size_0 rfl (lv_at hl 0 rfl) ?_
  refine zz_get (pc := 1) S hG iX1 0 rfl rfl 0 (by decide) wd_93 rfl rfl dX1_size_1 ?_
  exact zz_iretS (pc := 4) S hr hlocks (rfl) dX1_size_4
abbrev wm_X1_hasStroke : List Cond := .code yX1_hasStroke cX1_hasStroke 2 (some .boolean) :: wU
theorem q_X1_hasStroke : yX1_hasStroke.cls = RX1 ∧ yX1_hasStroke.cls ≠ "java/lang/invoke/MethodHandle" ∧ yX1_hasStroke.cls ≠ "java/lang/invoke/VarHandle" ∧ (parseMethodDescriptor yX1_hasStroke.desc).map (fun d => d.parameters.length) = some 1 := by decide +kernel
set_option maxHeartbeats 4000000 in
set_option maxRecDepth 100000 in
theorem c_X1_hasStroke (l : Launch) (D : va_G) (cI cR : ClassId) (d e1 e2 e3 e4 n : Nat) (P X Y L : Nat → Nat) (a : Int) (hok : zOk n P X Y L) (ha : zR a) : Met l yX1_hasStroke wm_X1_hasStroke ({ frames := 0, cells := 0, slots := 0, locals := 0 } : Room) (va_Pc [.ref d, .int (zI a)] (zW D cI cR [(d, .inr (1, [.int (nI n), .ref e1, .ref e2, .ref e3, .ref e4])), (e1, zA cI 8 P), (e2, zA cI 16 X), (e3, zA cI 16 Y), (e4, zA cI 8 L)])) (vp_Si (fun r => r = nI (zB (0 ≤ a ∧ a < (n : Int))))) 0 0 (fun _ => False) := by
  refine Met.ofW (cc := cX1_hasStroke) (maxL := 2) (ret := (some .boolean)) (by decide) rfl ?_
  intro p e s m args below meth c s₁ B hml hv
  obtain ⟨rfl, hG⟩ := hv
  have S : CallFix p m c cX1_hasStroke 2 s ([.ref d, .int (zI a)] : List Value).toArray wU RX1 := ⟨B.exec, B.bytes, hml, findClass_of_methodNamed B.named, fun w h => atoms_spec (ws := wm_X1_hasStroke) B.pre w (List.mem_cons_of_mem _ h)⟩
  have hr := B.returns
  have hlocks := B.notSynchronized
  have hG : zG D cI cR [(d, .inr (1, [.int (nI n), .ref e1, .ref e2, .ref e3, .ref e4])), (e1, zA cI 8 P), (e2, zA cI 16 X), (e3, zA cI 16 Y), (e4, zA cI 8 L)] s s.heap := hG
  have hl := lv_entry ([.ref d, .int (zI a)]) (n := 2) (Nat.le_of_ble_eq_true rfl)
  rw [lg_entry_eq]
  generalize (lg_sl ([.ref d, .int (zI a)]) ++ List.replicate (2 - (lg_sl ([.ref d, .int (zI a)])).length) Slot.unset).toArray = ls at hl ⊢
  have hl : lv_has ls 2 [(0, .ref d), (1, .int (zI a))] := hl
  have r_ha := id ha
  unfold zR at r_ha
  obtain ⟨hn, hPf, hXY, hLf, hinj⟩ := id hok
  refine lv_iload_n (pc := 0) S.1 S.2.1 dX1_hasStroke_0 rfl (lv_at hl 1 rfl) ?_
  refine zz_if_lt (pc := 1) (tgt := 16) S dX1_hasStroke_1 (by decide) (z_lt0 (by unfold zR; omega)) (fun c1 => ?_) (fun c1 => ?_)
  · refine zz_iconst (pc := 16) (v := nI 0) S dX1_hasStroke_16 rfl ?_
    exact zz_bretS (pc := 17) S hr hlocks (by decide) (congrArg nI (zB_f (by first | omega | rfl)).symm) dX1_hasStroke_17
  · refine lv_iload_n (pc := 4) S.1 S.2.1 dX1_hasStroke_4 rfl (lv_at hl 1 rfl) ?_
    refine lv_aload_n (pc := 5) S.1 S.2.1 dX1_hasStroke_5 rfl (lv_at hl 0 rfl) ?_
    refine zz_get (pc := 6) S hG iX1 0 rfl rfl 0 (by decide) wd_93 rfl rfl dX1_hasStroke_6 ?_
    refine zz_icmp_ge (pc := 9) (tgt := 16) S dX1_hasStroke_9 (by decide) (zI_le (a := ((n : Nat) : Int)) (b := a) (by unfold zR; omega) (by unfold zR; omega)) (fun c9 => ?_) (fun c9 => ?_)
    · refine zz_iconst (pc := 16) (v := nI 0) S dX1_hasStroke_16 rfl ?_
      exact zz_bretS (pc := 17) S hr hlocks (by decide) (congrArg nI (zB_f (by first | omega | rfl)).symm) dX1_hasStroke_17
    · refine zz_iconst (pc := 12) (v := nI 1) S dX1_hasStroke_12 rfl ?_
      refine lv_goto (pc := 13) (tgt := 17) S.1 S.2.1 dX1_hasStroke_13 (by decide) ?_
      exact zz_bretS (pc := 17) S hr hlocks (by decide) (congrArg nI (zB_t (by first | omega | rfl)).symm) dX1_hasStroke_17
abbrev wm_X1_hasPosition : List Cond := .code yX1_hasPosition cX1_hasPosition 2 (some .boolean) :: wU
theorem q_X1_hasPosition : yX1_hasPosition.cls = RX1 ∧ yX1_hasPosition.cls ≠ "java/lang/invoke/MethodHandle" ∧ yX1_hasPosition.cls ≠ "java/lang/invoke/VarHandle" ∧ (parseMethodDescriptor yX1_hasPosition.desc).map (fun d => d.parameters.length) = some 1 := by decide +kernel
set_option maxHeartbeats 4000000 in
set_option maxRecDepth 100000 in
theorem c_X1_hasPosition (l : Launch) (D : va_G) (cI cR : ClassId) (d e1 e2 e3 e4 n : Nat) (P X Y L : Nat → Nat) (a : Int) (hok : zOk n P X Y L) (ha : zR a) : Met l yX1_hasPosition wm_X1_hasPosition ({ frames := 0, cells := 0, slots := 0, locals := 0 } : Room) (va_Pc [.ref d, .int (zI a)] (zW D cI cR [(d, .inr (1, [.int (nI n), .ref e1, .ref e2, .ref e3, .ref e4])), (e1, zA cI 8 P), (e2, zA cI 16 X), (e3, zA cI 16 Y), (e4, zA cI 8 L)])) (vp_Si (fun r => r = nI (zB (0 ≤ a ∧ a < (n : Int))))) 0 0 (fun _ => False) := by
  refine Met.ofW (cc := cX1_hasPosition) (maxL := 2) (ret := (some .boolean)) (by decide) rfl ?_
  intro p e s m args below meth c s₁ B hml hv
  obtain ⟨rfl, hG⟩ := hv
  have S : CallFix p m c cX1_hasPosition 2 s ([.ref d, .int (zI a)] : List Value).toArray wU RX1 := ⟨B.exec, B.bytes, hml, findClass_of_methodNamed B.named, fun w h => atoms_spec (ws := wm_X1_hasPosition) B.pre w (List.mem_cons_of_mem _ h)⟩
  have hr := B.returns
  have hlocks := B.notSynchronized
  have hG : zG D cI cR [(d, .inr (1, [.int (nI n), .ref e1, .ref e2, .ref e3, .ref e4])), (e1, zA cI 8 P), (e2, zA cI 16 X), (e3, zA cI 16 Y), (e4, zA cI 8 L)] s s.heap := hG
  have hl := lv_entry ([.ref d, .int (zI a)]) (n := 2) (Nat.le_of_ble_eq_true rfl)
  rw [lg_entry_eq]
  generalize (lg_sl ([.ref d, .int (zI a)]) ++ List.replicate (2 - (lg_sl ([.ref d, .int (zI a)])).length) Slot.unset).toArray = ls at hl ⊢
  have hl : lv_has ls 2 [(0, .ref d), (1, .int (zI a))] := hl
  have r_ha := id ha
  unfold zR at r_ha
  obtain ⟨hn, hPf, hXY, hLf, hinj⟩ := id hok
  refine lv_iload_n (pc := 0) S.1 S.2.1 dX1_hasPosition_0 rfl (lv_at hl 1 rfl) ?_
  refine zz_if_lt (pc := 1) (tgt := 16) S dX1_hasPosition_1 (by decide) (z_lt0 (by unfold zR; omega)) (fun c1 => ?_) (fun c1 => ?_)
  · refine zz_iconst (pc := 16) (v := nI 0) S dX1_hasPosition_16 rfl ?_
    exact zz_bretS (pc := 17) S hr hlocks (by decide) (congrArg nI (zB_f (by first | omega | rfl)).symm) dX1_hasPosition_17
  · refine lv_iload_n (pc := 4) S.1 S.2.1 dX1_hasPosition_4 rfl (lv_at hl 1 rfl) ?_
    refine lv_aload_n (pc := 5) S.1 S.2.1 dX1_hasPosition_5 rfl (lv_at hl 0 rfl) ?_
    refine zz_get (pc := 6) S hG iX1 0 rfl rfl 0 (by decide) wd_93 rfl rfl dX1_hasPosition_6 ?_
    refine zz_icmp_ge (pc := 9) (tgt := 16) S dX1_hasPosition_9 (by decide) (zI_le (a := ((n : Nat) : Int)) (b := a) (by unfold zR; omega) (by unfold zR; omega)) (fun c9 => ?_) (fun c9 => ?_)
    · refine zz_iconst (pc := 16) (v := nI 0) S dX1_hasPosition_16 rfl ?_
      exact zz_bretS (pc := 17) S hr hlocks (by decide) (congrArg nI (zB_f (by first | omega | rfl)).symm) dX1_hasPosition_17
    · refine zz_iconst (pc := 12) (v := nI 1) S dX1_hasPosition_12 rfl ?_
      refine lv_goto (pc := 13) (tgt := 17) S.1 S.2.1 dX1_hasPosition_13 (by decide) ?_
      exact zz_bretS (pc := 17) S hr hlocks (by decide) (congrArg nI (zB_t (by first | omega | rfl)).symm) dX1_hasPosition_17
abbrev wm_X1_hasCode : List Cond := .code yX1_hasCode cX1_hasCode 2 (some .boolean) :: wU
theorem q_X1_hasCode : yX1_hasCode.cls = RX1 ∧ yX1_hasCode.cls ≠ "java/lang/invoke/MethodHandle" ∧ yX1_hasCode.cls ≠ "java/lang/invoke/VarHandle" ∧ (parseMethodDescriptor yX1_hasCode.desc).map (fun d => d.parameters.length) = some 1 := by decide +kernel
set_option maxHeartbeats 4000000 in
set_option maxRecDepth 100000 in
theorem c_X1_hasCode (l : Launch) (D : va_G) (cI cR : ClassId) (d e1 e2 e3 e4 n : Nat) (P X Y L : Nat → Nat) (a : Int) (hok : zOk n P X Y L) (ha : zR a) : Met l yX1_hasCode wm_X1_hasCode ({ frames := 0, cells := 0, slots := 0, locals := 0 } : Room) (va_Pc [.ref d, .int (zI a)] (zW D cI cR [(d, .inr (1, [.int (nI n), .ref e1, .ref e2, .ref e3, .ref e4])), (e1, zA cI 8 P), (e2, zA cI 16 X), (e3, zA cI 16 Y), (e4, zA cI 8 L)])) (vp_Si (fun r => r = nI (zB (0 ≤ a ∧ a < 2 * (n : Int))))) 0 0 (fun _ => False) := by
  refine Met.ofW (cc := cX1_hasCode) (maxL := 2) (ret := (some .boolean)) (by decide) rfl ?_
  intro p e s m args below meth c s₁ B hml hv
  obtain ⟨rfl, hG⟩ := hv
  have S : CallFix p m c cX1_hasCode 2 s ([.ref d, .int (zI a)] : List Value).toArray wU RX1 := ⟨B.exec, B.bytes, hml, findClass_of_methodNamed B.named, fun w h => atoms_spec (ws := wm_X1_hasCode) B.pre w (List.mem_cons_of_mem _ h)⟩
  have hr := B.returns
  have hlocks := B.notSynchronized
  have hG : zG D cI cR [(d, .inr (1, [.int (nI n), .ref e1, .ref e2, .ref e3, .ref e4])), (e1, zA cI 8 P), (e2, zA cI 16 X), (e3, zA cI 16 Y), (e4, zA cI 8 L)] s s.heap := hG
  have hl := lv_entry ([.ref d, .int (zI a)]) (n := 2) (Nat.le_of_ble_eq_true rfl)
  rw [lg_entry_eq]
  generalize (lg_sl ([.ref d, .int (zI a)]) ++ List.replicate (2 - (lg_sl ([.ref d, .int (zI a)])).length) Slot.unset).toArray = ls at hl ⊢
  have hl : lv_has ls 2 [(0, .ref d), (1, .int (zI a))] := hl
  have r_ha := id ha
  unfold zR at r_ha
  obtain ⟨hn, hPf, hXY, hLf, hinj⟩ := id hok
  refine lv_iload_n (pc := 0) S.1 S.2.1 dX1_hasCode_0 rfl (lv_at hl 1 rfl) ?_
  refine zz_if_lt (pc := 1) (tgt := 18) S dX1_hasCode_1 (by decide) (z_lt0 (by unfold zR; omega)) (fun c1 => ?_) (fun c1 => ?_)
  · refine zz_iconst (pc := 18) (v := nI 0) S dX1_hasCode_18 rfl ?_
    exact zz_bretS (pc := 19) S hr hlocks (by decide) (congrArg nI (zB_f (by first | omega | rfl)).symm) dX1_hasCode_19
  · refine lv_iload_n (pc := 4) S.1 S.2.1 dX1_hasCode_4 rfl (lv_at hl 1 rfl) ?_
    refine zz_iconst (pc := 5) (v := nI 2) S dX1_hasCode_5 rfl ?_
    refine lv_aload_n (pc := 6) S.1 S.2.1 dX1_hasCode_6 rfl (lv_at hl 0 rfl) ?_
    refine zz_get (pc := 7) S hG iX1 0 rfl rfl 0 (by decide) wd_93 rfl rfl dX1_hasCode_7 ?_
    refine zz_imul (pc := 10) (v := nI (2 * n)) S dX1_hasCode_10 (n_mul _ _) ?_
    refine zz_icmp_ge (pc := 11) (tgt := 18) S dX1_hasCode_11 (by decide) (zI_le (a := ((2 * n : Nat) : Int)) (b := a) (by unfold zR; omega) (by unfold zR; omega)) (fun c11 => ?_) (fun c11 => ?_)
    · refine zz_iconst (pc := 18) (v := nI 0) S dX1_hasCode_18 rfl ?_
      exact zz_bretS (pc := 19) S hr hlocks (by decide) (congrArg nI (zB_f (by first | omega | rfl)).symm) dX1_hasCode_19
    · refine zz_iconst (pc := 14) (v := nI 1) S dX1_hasCode_14 rfl ?_
      refine lv_goto (pc := 15) (tgt := 19) S.1 S.2.1 dX1_hasCode_15 (by decide) ?_
      exact zz_bretS (pc := 19) S hr hlocks (by decide) (congrArg nI (zB_t (by first | omega | rfl)).symm) dX1_hasCode_19
abbrev wm_X1_penOfStroke : List Cond := .code yX1_penOfStroke cX1_penOfStroke 2 (some .int) :: wU
theorem q_X1_penOfStroke : yX1_penOfStroke.cls = RX1 ∧ yX1_penOfStroke.cls ≠ "java/lang/invoke/MethodHandle" ∧ yX1_penOfStroke.cls ≠ "java/lang/invoke/VarHandle" ∧ (parseMethodDescriptor yX1_penOfStroke.desc).map (fun d => d.parameters.length) = some 1 := by decide +kernel
set_option maxHeartbeats 4000000 in
set_option maxRecDepth 100000 in
theorem c_X1_penOfStroke (l : Launch) (D : va_G) (cI cR : ClassId) (d e1 e2 e3 e4 n : Nat) (P X Y L : Nat → Nat) (a : Nat) (hok : zOk n P X Y L) (ha : a < n) : Met l yX1_penOfStroke wm_X1_penOfStroke ({ frames := 1, cells := 0, slots := 0, locals := 21 } : Room) (va_Pc [.ref d, .int (nI a)] (zW D cI cR [(d, .inr (1, [.int (nI n), .ref e1, .ref e2, .ref e3, .ref e4])), (e1, zA cI 8 P), (e2, zA cI 16 X), (e3, zA cI 16 Y), (e4, zA cI 8 L)])) (vp_Si (fun r => r = nI (P a))) 0 0 (fun _ => False) := by
  refine Met.ofW (cc := cX1_penOfStroke) (maxL := 2) (ret := (some .int)) (by decide) rfl ?_
  intro p e s m args below meth c s₁ B hml hv
  obtain ⟨rfl, hG⟩ := hv
  have S : CallFix p m c cX1_penOfStroke 2 s ([.ref d, .int (nI a)] : List Value).toArray wU RX1 := ⟨B.exec, B.bytes, hml, findClass_of_methodNamed B.named, fun w h => atoms_spec (ws := wm_X1_penOfStroke) B.pre w (List.mem_cons_of_mem _ h)⟩
  have hr := B.returns
  have hlocks := B.notSynchronized
  have hG : zG D cI cR [(d, .inr (1, [.int (nI n), .ref e1, .ref e2, .ref e3, .ref e4])), (e1, zA cI 8 P), (e2, zA cI 16 X), (e3, zA cI 16 Y), (e4, zA cI 8 L)] s s.heap := hG
  have hl := lv_entry ([.ref d, .int (nI a)]) (n := 2) (Nat.le_of_ble_eq_true rfl)
  rw [lg_entry_eq]
  generalize (lg_sl ([.ref d, .int (nI a)]) ++ List.replicate (2 - (lg_sl ([.ref d, .int (nI a)])).length) Slot.unset).toArray = ls at hl ⊢
  have hl : lv_has ls 2 [(0, .ref d), (1, .int (nI a))] := hl
  obtain ⟨hn, hPf, hXY, hLf, hinj⟩ := id hok
  refine lv_aload_n (pc := 0) S.1 S.2.1 dX1_penOfStroke_0 rfl (lv_at hl 0 rfl) ?_
  refine lv_iload_n (pc := 1) S.1 S.2.1 dX1_penOfStroke_1 rfl (lv_at hl 1 rfl) ?_
  refine zz_callV (pc := 2) (As := [.int (zI ((a : Nat) : Int))]) (rest := []) S (c_X1_hasStroke l D cI cR d e1 e2 e3 e4 n P X Y L ((a : Nat) : Int) hok (by unfold zR; omega)) (zuV wd_148 wd_153 wd_146 wd_147 wd_14) 1 rfl q_X1_hasStroke ⟨⟨rfl, rfl⟩, Nat.le_of_ble_eq_true rfl, Nat.le_of_ble_eq_true rfl⟩ hG [0, 1, 2, 3, 4] rfl 0 rfl rfl rfl rfl rfl (Nat.le_of_ble_eq_true rfl) hl.1 ⟨Nat.zero_le _, Nat.zero_le _⟩ dX1_penOfStroke_2 ?_
  refine zz_ifb_eq (pc := 5) (tgt := 17) S dX1_penOfStroke_5 (by decide) (fun c5 => ?_) (fun c5 => ?_)
  · exfalso; omega
  · refine lv_aload_n (pc := 8) S.1 S.2.1 dX1_penOfStroke_8 rfl (lv_at hl 0 rfl) ?_
    refine zz_get (pc := 9) S hG iX1 0 rfl rfl 1 (by decide) wd_39 rfl rfl dX1_penOfStroke_9 ?_
    refine lv_iload_n (pc := 12) S.1 S.2.1 dX1_penOfStroke_12 rfl (lv_at hl 1 rfl) ?_
    refine zz_iald (pc := 13) (k := a) S hG 1 rfl (by omega) dX1_penOfStroke_13 ?_
    have g1 := hPf a (by omega)
    refine lv_goto (pc := 14) (tgt := 18) S.1 S.2.1 dX1_penOfStroke_14 (by decide) ?_
    exact zz_iretS (pc := 18) S hr hlocks (rfl) dX1_penOfStroke_18
abbrev wm_X1_codeAt : List Cond := .code yX1_codeAt cX1_codeAt 2 (some .int) :: wU
theorem q_X1_codeAt : yX1_codeAt.cls = RX1 ∧ yX1_codeAt.cls ≠ "java/lang/invoke/MethodHandle" ∧ yX1_codeAt.cls ≠ "java/lang/invoke/VarHandle" ∧ (parseMethodDescriptor yX1_codeAt.desc).map (fun d => d.parameters.length) = some 1 := by decide +kernel
set_option maxHeartbeats 4000000 in
set_option maxRecDepth 100000 in
theorem c_X1_codeAt (l : Launch) (D : va_G) (cI cR : ClassId) (d e1 e2 e3 e4 n : Nat) (P X Y L : Nat → Nat) (a : Nat) (hok : zOk n P X Y L) (ha : a < n) : Met l yX1_codeAt wm_X1_codeAt ({ frames := 1, cells := 0, slots := 0, locals := 21 } : Room) (va_Pc [.ref d, .int (nI a)] (zW D cI cR [(d, .inr (1, [.int (nI n), .ref e1, .ref e2, .ref e3, .ref e4])), (e1, zA cI 8 P), (e2, zA cI 16 X), (e3, zA cI 16 Y), (e4, zA cI 8 L)])) (vp_Si (fun r => r = nI (L a))) 0 0 (fun _ => False) := by
  refine Met.ofW (cc := cX1_codeAt) (maxL := 2) (ret := (some .int)) (by decide) rfl ?_
  intro p e s m args below meth c s₁ B hml hv
  obtain ⟨rfl, hG⟩ := hv
  have S : CallFix p m c cX1_codeAt 2 s ([.ref d, .int (nI a)] : List Value).toArray wU RX1 := ⟨B.exec, B.bytes, hml, findClass_of_methodNamed B.named, fun w h => atoms_spec (ws := wm_X1_codeAt) B.pre w (List.mem_cons_of_mem _ h)⟩
  have hr := B.returns
  have hlocks := B.notSynchronized
  have hG : zG D cI cR [(d, .inr (1, [.int (nI n), .ref e1, .ref e2, .ref e3, .ref e4])), (e1, zA cI 8 P), (e2, zA cI 16 X), (e3, zA cI 16 Y), (e4, zA cI 8 L)] s s.heap := hG
  have hl := lv_entry ([.ref d, .int (nI a)]) (n := 2) (Nat.le_of_ble_eq_true rfl)
  rw [lg_entry_eq]
  generalize (lg_sl ([.ref d, .int (nI a)]) ++ List.replicate (2 - (lg_sl ([.ref d, .int (nI a)])).length) Slot.unset).toArray = ls at hl ⊢
  have hl : lv_has ls 2 [(0, .ref d), (1, .int (nI a))] := hl
  obtain ⟨hn, hPf, hXY, hLf, hinj⟩ := id hok
  refine lv_aload_n (pc := 0) S.1 S.2.1 dX1_codeAt_0 rfl (lv_at hl 0 rfl) ?_
  refine lv_iload_n (pc := 1) S.1 S.2.1 dX1_codeAt_1 rfl (lv_at hl 1 rfl) ?_
  refine zz_callV (pc := 2) (As := [.int (zI ((a : Nat) : Int))]) (rest := []) S (c_X1_hasPosition l D cI cR d e1 e2 e3 e4 n P X Y L ((a : Nat) : Int) hok (by unfold zR; omega)) (zuV wd_347 wd_352 wd_345 wd_346 wd_14) 1 rfl q_X1_hasPosition ⟨⟨rfl, rfl⟩, Nat.le_of_ble_eq_true rfl, Nat.le_of_ble_eq_true rfl⟩ hG [0, 1, 2, 3, 4] rfl 0 rfl rfl rfl rfl rfl (Nat.le_of_ble_eq_true rfl) hl.1 ⟨Nat.zero_le _, Nat.zero_le _⟩ dX1_codeAt_2 ?_
  refine zz_ifb_eq (pc := 5) (tgt := 17) S dX1_codeAt_5 (by decide) (fun c5 => ?_) (fun c5 => ?_)
  · exfalso; omega
  · refine lv_aload_n (pc := 8) S.1 S.2.1 dX1_codeAt_8 rfl (lv_at hl 0 rfl) ?_
    refine zz_get (pc := 9) S hG iX1 0 rfl rfl 4 (by decide) wd_42 rfl rfl dX1_codeAt_9 ?_
    refine lv_iload_n (pc := 12) S.1 S.2.1 dX1_codeAt_12 rfl (lv_at hl 1 rfl) ?_
    refine zz_iald (pc := 13) (k := a) S hG 4 rfl (by omega) dX1_codeAt_13 ?_
    have g1 := hLf a (by omega)
    refine lv_goto (pc := 14) (tgt := 18) S.1 S.2.1 dX1_codeAt_14 (by decide) ?_
    exact zz_iretS (pc := 18) S hr hlocks (rfl) dX1_codeAt_18
abbrev wm_X1_beginXOf : List Cond := .code yX1_beginXOf cX1_beginXOf 2 (some .int) :: wU
theorem q_X1_beginXOf : yX1_beginXOf.cls = RX1 ∧ yX1_beginXOf.cls ≠ "java/lang/invoke/MethodHandle" ∧ yX1_beginXOf.cls ≠ "java/lang/invoke/VarHandle" ∧ (parseMethodDescriptor yX1_beginXOf.desc).map (fun d => d.parameters.length) = some 1 := by decide +kernel
set_option maxHeartbeats 4000000 in
set_option maxRecDepth 100000 in
theorem c_X1_beginXOf (l : Launch) (D : va_G) (cI cR : ClassId) (d e1 e2 e3 e4 n : Nat) (P X Y L : Nat → Nat) (a : Nat) (hok : zOk n P X Y L) (ha : a < 2 * n) : Met l yX1_beginXOf wm_X1_beginXOf ({ frames := 1, cells := 0, slots := 0, locals := 21 } : Room) (va_Pc [.ref d, .int (nI a)] (zW D cI cR [(d, .inr (1, [.int (nI n), .ref e1, .ref e2, .ref e3, .ref e4])), (e1, zA cI 8 P), (e2, zA cI 16 X), (e3, zA cI 16 Y), (e4, zA cI 8 L)])) (vp_Si (fun r => r = nI (X a))) 0 0 (fun _ => False) := by
  refine Met.ofW (cc := cX1_beginXOf) (maxL := 2) (ret := (some .int)) (by decide) rfl ?_
  intro p e s m args below meth c s₁ B hml hv
  obtain ⟨rfl, hG⟩ := hv
  have S : CallFix p m c cX1_beginXOf 2 s ([.ref d, .int (nI a)] : List Value).toArray wU RX1 := ⟨B.exec, B.bytes, hml, findClass_of_methodNamed B.named, fun w h => atoms_spec (ws := wm_X1_beginXOf) B.pre w (List.mem_cons_of_mem _ h)⟩
  have hr := B.returns
  have hlocks := B.notSynchronized
  have hG : zG D cI cR [(d, .inr (1, [.int (nI n), .ref e1, .ref e2, .ref e3, .ref e4])), (e1, zA cI 8 P), (e2, zA cI 16 X), (e3, zA cI 16 Y), (e4, zA cI 8 L)] s s.heap := hG
  have hl := lv_entry ([.ref d, .int (nI a)]) (n := 2) (Nat.le_of_ble_eq_true rfl)
  rw [lg_entry_eq]
  generalize (lg_sl ([.ref d, .int (nI a)]) ++ List.replicate (2 - (lg_sl ([.ref d, .int (nI a)])).length) Slot.unset).toArray = ls at hl ⊢
  have hl : lv_has ls 2 [(0, .ref d), (1, .int (nI a))] := hl
  obtain ⟨hn, hPf, hXY, hLf, hinj⟩ := id hok
  refine lv_aload_n (pc := 0) S.1 S.2.1 dX1_beginXOf_0 rfl (lv_at hl 0 rfl) ?_
  refine lv_iload_n (pc := 1) S.1 S.2.1 dX1_beginXOf_1 rfl (lv_at hl 1 rfl) ?_
  refine zz_callV (pc := 2) (As := [.int (zI ((a : Nat) : Int))]) (rest := []) S (c_X1_hasCode l D cI cR d e1 e2 e3 e4 n P X Y L ((a : Nat) : Int) hok (by unfold zR; omega)) (zuV wd_218 wd_215 wd_216 wd_217 wd_14) 1 rfl q_X1_hasCode ⟨⟨rfl, rfl⟩, Nat.le_of_ble_eq_true rfl, Nat.le_of_ble_eq_true rfl⟩ hG [0, 1, 2, 3, 4] rfl 0 rfl rfl rfl rfl rfl (Nat.le_of_ble_eq_true rfl) hl.1 ⟨Nat.zero_le _, Nat.zero_le _⟩ dX1_beginXOf_2 ?_
  refine zz_ifb_eq (pc := 5) (tgt := 17) S dX1_beginXOf_5 (by decide) (fun c5 => ?_) (fun c5 => ?_)
  · exfalso; omega
  · refine lv_aload_n (pc := 8) S.1 S.2.1 dX1_beginXOf_8 rfl (lv_at hl 0 rfl) ?_
    refine zz_get (pc := 9) S hG iX1 0 rfl rfl 2 (by decide) wd_40 rfl rfl dX1_beginXOf_9 ?_
    refine lv_iload_n (pc := 12) S.1 S.2.1 dX1_beginXOf_12 rfl (lv_at hl 1 rfl) ?_
    refine zz_iald (pc := 13) (k := a) S hG 2 rfl (by omega) dX1_beginXOf_13 ?_
    have g1 := (hXY a (by omega)).1
    refine lv_goto (pc := 14) (tgt := 18) S.1 S.2.1 dX1_beginXOf_14 (by decide) ?_
    exact zz_iretS (pc := 18) S hr hlocks (rfl) dX1_beginXOf_18
abbrev wm_X1_beginYOf : List Cond := .code yX1_beginYOf cX1_beginYOf 2 (some .int) :: wU
theorem q_X1_beginYOf : yX1_beginYOf.cls = RX1 ∧ yX1_beginYOf.cls ≠ "java/lang/invoke/MethodHandle" ∧ yX1_beginYOf.cls ≠ "java/lang/invoke/VarHandle" ∧ (parseMethodDescriptor yX1_beginYOf.desc).map (fun d => d.parameters.length) = some 1 := by decide +kernel
set_option maxHeartbeats 4000000 in
set_option maxRecDepth 100000 in
theorem c_X1_beginYOf (l : Launch) (D : va_G) (cI cR : ClassId) (d e1 e2 e3 e4 n : Nat) (P X Y L : Nat → Nat) (a : Nat) (hok : zOk n P X Y L) (ha : a < 2 * n) : Met l yX1_beginYOf wm_X1_beginYOf ({ frames := 1, cells := 0, slots := 0, locals := 21 } : Room) (va_Pc [.ref d, .int (nI a)] (zW D cI cR [(d, .inr (1, [.int (nI n), .ref e1, .ref e2, .ref e3, .ref e4])), (e1, zA cI 8 P), (e2, zA cI 16 X), (e3, zA cI 16 Y), (e4, zA cI 8 L)])) (vp_Si (fun r => r = nI (Y a))) 0 0 (fun _ => False) := by
  refine Met.ofW (cc := cX1_beginYOf) (maxL := 2) (ret := (some .int)) (by decide) rfl ?_
  intro p e s m args below meth c s₁ B hml hv
  obtain ⟨rfl, hG⟩ := hv
  have S : CallFix p m c cX1_beginYOf 2 s ([.ref d, .int (nI a)] : List Value).toArray wU RX1 := ⟨B.exec, B.bytes, hml, findClass_of_methodNamed B.named, fun w h => atoms_spec (ws := wm_X1_beginYOf) B.pre w (List.mem_cons_of_mem _ h)⟩
  have hr := B.returns
  have hlocks := B.notSynchronized
  have hG : zG D cI cR [(d, .inr (1, [.int (nI n), .ref e1, .ref e2, .ref e3, .ref e4])), (e1, zA cI 8 P), (e2, zA cI 16 X), (e3, zA cI 16 Y), (e4, zA cI 8 L)] s s.heap := hG
  have hl := lv_entry ([.ref d, .int (nI a)]) (n := 2) (Nat.le_of_ble_eq_true rfl)
  rw [lg_entry_eq]
  generalize (lg_sl ([.ref d, .int (nI a)]) ++ List.replicate (2 - (lg_sl ([.ref d, .int (nI a)])).length) Slot.unset).toArray = ls at hl ⊢
  have hl : lv_has ls 2 [(0, .ref d), (1, .int (nI a))] := hl
  obtain ⟨hn, hPf, hXY, hLf, hinj⟩ := id hok
  refine lv_aload_n (pc := 0) S.1 S.2.1 dX1_beginYOf_0 rfl (lv_at hl 0 rfl) ?_
  refine lv_iload_n (pc := 1) S.1 S.2.1 dX1_beginYOf_1 rfl (lv_at hl 1 rfl) ?_
  refine zz_callV (pc := 2) (As := [.int (zI ((a : Nat) : Int))]) (rest := []) S (c_X1_hasCode l D cI cR d e1 e2 e3 e4 n P X Y L ((a : Nat) : Int) hok (by unfold zR; omega)) (zuV wd_218 wd_215 wd_216 wd_217 wd_14) 1 rfl q_X1_hasCode ⟨⟨rfl, rfl⟩, Nat.le_of_ble_eq_true rfl, Nat.le_of_ble_eq_true rfl⟩ hG [0, 1, 2, 3, 4] rfl 0 rfl rfl rfl rfl rfl (Nat.le_of_ble_eq_true rfl) hl.1 ⟨Nat.zero_le _, Nat.zero_le _⟩ dX1_beginYOf_2 ?_
  refine zz_ifb_eq (pc := 5) (tgt := 17) S dX1_beginYOf_5 (by decide) (fun c5 => ?_) (fun c5 => ?_)
  · exfalso; omega
  · refine lv_aload_n (pc := 8) S.1 S.2.1 dX1_beginYOf_8 rfl (lv_at hl 0 rfl) ?_
    refine zz_get (pc := 9) S hG iX1 0 rfl rfl 3 (by decide) wd_41 rfl rfl dX1_beginYOf_9 ?_
    refine lv_iload_n (pc := 12) S.1 S.2.1 dX1_beginYOf_12 rfl (lv_at hl 1 rfl) ?_
    refine zz_iald (pc := 13) (k := a) S hG 3 rfl (by omega) dX1_beginYOf_13 ?_
    have g1 := (hXY a (by omega)).2
    refine lv_goto (pc := 14) (tgt := 18) S.1 S.2.1 dX1_beginYOf_14 (by decide) ?_
    exact zz_iretS (pc := 18) S hr hlocks (rfl) dX1_beginYOf_18
abbrev wm_X1_endXOf : List Cond := .code yX1_endXOf cX1_endXOf 2 (some .int) :: wU
theorem q_X1_endXOf : yX1_endXOf.cls = RX1 ∧ yX1_endXOf.cls ≠ "java/lang/invoke/MethodHandle" ∧ yX1_endXOf.cls ≠ "java/lang/invoke/VarHandle" ∧ (parseMethodDescriptor yX1_endXOf.desc).map (fun d => d.parameters.length) = some 1 := by decide +kernel
set_option maxHeartbeats 4000000 in
set_option maxRecDepth 100000 in
theorem c_X1_endXOf (l : Launch) (D : va_G) (cI cR : ClassId) (d e1 e2 e3 e4 n : Nat) (P X Y L : Nat → Nat) (a : Int) (hok : zOk n P X Y L) (ha : -1 ≤ a ∧ a < 2 * (n : Int)) : Met l yX1_endXOf wm_X1_endXOf ({ frames := 1, cells := 0, slots := 0, locals := 21 } : Room) (va_Pc [.ref d, .int (zI a)] (zW D cI cR [(d, .inr (1, [.int (nI n), .ref e1, .ref e2, .ref e3, .ref e4])), (e1, zA cI 8 P), (e2, zA cI 16 X), (e3, zA cI 16 Y), (e4, zA cI 8 L)])) (vp_Si (fun r => r = nI (oX X a))) 0 0 (fun _ => False) := by
  refine Met.ofW (cc := cX1_endXOf) (maxL := 2) (ret := (some .int)) (by decide) rfl ?_
  intro p e s m args below meth c s₁ B hml hv
  obtain ⟨rfl, hG⟩ := hv
  have S : CallFix p m c cX1_endXOf 2 s ([.ref d, .int (zI a)] : List Value).toArray wU RX1 := ⟨B.exec, B.bytes, hml, findClass_of_methodNamed B.named, fun w h => atoms_spec (ws := wm_X1_endXOf) B.pre w (List.mem_cons_of_mem _ h)⟩
  have hr := B.returns
  have hlocks := B.notSynchronized
  have hG : zG D cI cR [(d, .inr (1, [.int (nI n), .ref e1, .ref e2, .ref e3, .ref e4])), (e1, zA cI 8 P), (e2, zA cI 16 X), (e3, zA cI 16 Y), (e4, zA cI 8 L)] s s.heap := hG
  have hl := lv_entry ([.ref d, .int (zI a)]) (n := 2) (Nat.le_of_ble_eq_true rfl)
  rw [lg_entry_eq]
  generalize (lg_sl ([.ref d, .int (zI a)]) ++ List.replicate (2 - (lg_sl ([.ref d, .int (zI a)])).length) Slot.unset).toArray = ls at hl ⊢
  have hl : lv_has ls 2 [(0, .ref d), (1, .int (zI a))] := hl
  obtain ⟨hn, hPf, hXY, hLf, hinj⟩ := id hok
  refine lv_aload_n (pc := 0) S.1 S.2.1 dX1_endXOf_0 rfl (lv_at hl 0 rfl) ?_
  refine lv_iload_n (pc := 1) S.1 S.2.1 dX1_endXOf_1 rfl (lv_at hl 1 rfl) ?_
  refine zz_callV (pc := 2) (As := [.int (zI a)]) (rest := []) S (c_X1_hasCode l D cI cR d e1 e2 e3 e4 n P X Y L a hok (by unfold zR; omega)) (zuV wd_218 wd_215 wd_216 wd_217 wd_14) 1 rfl q_X1_hasCode ⟨⟨rfl, rfl⟩, Nat.le_of_ble_eq_true rfl, Nat.le_of_ble_eq_true rfl⟩ hG [0, 1, 2, 3, 4] rfl 0 rfl rfl rfl rfl rfl (Nat.le_of_ble_eq_true rfl) hl.1 ⟨Nat.zero_le _, Nat.zero_le _⟩ dX1_endXOf_2 ?_
  refine zz_ifb_eq (pc := 5) (tgt := 19) S dX1_endXOf_5 (by decide) (fun c5 => ?_) (fun c5 => ?_)
  · refine zz_iconst (pc := 19) (v := nI 0) S dX1_endXOf_19 rfl ?_
    exact zz_iretS (pc := 20) S hr hlocks (congrArg nI (by simp only [oX]; first | rw [if_pos (by omega)] | rw [if_neg (by omega)])) dX1_endXOf_20
  · refine lv_aload_n (pc := 8) S.1 S.2.1 dX1_endXOf_8 rfl (lv_at hl 0 rfl) ?_
    refine zz_get (pc := 9) S hG iX1 0 rfl rfl 2 (by decide) wd_40 rfl rfl dX1_endXOf_9 ?_
    have hsw := sw_lt (c := a.toNat) (n := n) (by omega)
    refine lv_iload_n (pc := 12) S.1 S.2.1 dX1_endXOf_12 rfl (lv_at hl 1 rfl) ?_
    refine zz_cast (v := nI a.toNat) (zn_of (by omega)) ?_
    refine zz_iconst (pc := 13) (v := nI 1) S dX1_endXOf_13 rfl ?_
    refine zz_ixor (pc := 14) (v := nI (sw a.toNat)) S dX1_endXOf_14 (n_xor1 _) ?_
    refine zz_iald (pc := 15) (k := sw a.toNat) S hG 2 rfl (by omega) dX1_endXOf_15 ?_
    have g1 := (hXY (sw a.toNat) (by omega)).1
    refine lv_goto (pc := 16) (tgt := 20) S.1 S.2.1 dX1_endXOf_16 (by decide) ?_
    exact zz_iretS (pc := 20) S hr hlocks (congrArg nI (by simp only [oX]; first | rw [if_pos (by omega)] | rw [if_neg (by omega)])) dX1_endXOf_20
abbrev wm_X1_endYOf : List Cond := .code yX1_endYOf cX1_endYOf 2 (some .int) :: wU
theorem q_X1_endYOf : yX1_endYOf.cls = RX1 ∧ yX1_endYOf.cls ≠ "java/lang/invoke/MethodHandle" ∧ yX1_endYOf.cls ≠ "java/lang/invoke/VarHandle" ∧ (parseMethodDescriptor yX1_endYOf.desc).map (fun d => d.parameters.length) = some 1 := by decide +kernel
set_option maxHeartbeats 4000000 in
set_option maxRecDepth 100000 in
theorem c_X1_endYOf (l : Launch) (D : va_G) (cI cR : ClassId) (d e1 e2 e3 e4 n : Nat) (P X Y L : Nat → Nat) (a : Int) (hok : zOk n P X Y L) (ha : -1 ≤ a ∧ a < 2 * (n : Int)) : Met l yX1_endYOf wm_X1_endYOf ({ frames := 1, cells := 0, slots := 0, locals := 21 } : Room) (va_Pc [.ref d, .int (zI a)] (zW D cI cR [(d, .inr (1, [.int (nI n), .ref e1, .ref e2, .ref e3, .ref e4])), (e1, zA cI 8 P), (e2, zA cI 16 X), (e3, zA cI 16 Y), (e4, zA cI 8 L)])) (vp_Si (fun r => r = nI (oX Y a))) 0 0 (fun _ => False) := by
  refine Met.ofW (cc := cX1_endYOf) (maxL := 2) (ret := (some .int)) (by decide) rfl ?_
  intro p e s m args below meth c s₁ B hml hv
  obtain ⟨rfl, hG⟩ := hv
  have S : CallFix p m c cX1_endYOf 2 s ([.ref d, .int (zI a)] : List Value).toArray wU RX1 := ⟨B.exec, B.bytes, hml, findClass_of_methodNamed B.named, fun w h => atoms_spec (ws := wm_X1_endYOf) B.pre w (List.mem_cons_of_mem _ h)⟩
  have hr := B.returns
  have hlocks := B.notSynchronized
  have hG : zG D cI cR [(d, .inr (1, [.int (nI n), .ref e1, .ref e2, .ref e3, .ref e4])), (e1, zA cI 8 P), (e2, zA cI 16 X), (e3, zA cI 16 Y), (e4, zA cI 8 L)] s s.heap := hG
  have hl := lv_entry ([.ref d, .int (zI a)]) (n := 2) (Nat.le_of_ble_eq_true rfl)
  rw [lg_entry_eq]
  generalize (lg_sl ([.ref d, .int (zI a)]) ++ List.replicate (2 - (lg_sl ([.ref d, .int (zI a)])).length) Slot.unset).toArray = ls at hl ⊢
  have hl : lv_has ls 2 [(0, .ref d), (1, .int (zI a))] := hl
  obtain ⟨hn, hPf, hXY, hLf, hinj⟩ := id hok
  refine lv_aload_n (pc := 0) S.1 S.2.1 dX1_endYOf_0 rfl (lv_at hl 0 rfl) ?_
  refine lv_iload_n (pc := 1) S.1 S.2.1 dX1_endYOf_1 rfl (lv_at hl 1 rfl) ?_
  refine zz_callV (pc := 2) (As := [.int (zI a)]) (rest := []) S (c_X1_hasCode l D cI cR d e1 e2 e3 e4 n P X Y L a hok (by unfold zR; omega)) (zuV wd_218 wd_215 wd_216 wd_217 wd_14) 1 rfl q_X1_hasCode ⟨⟨rfl, rfl⟩, Nat.le_of_ble_eq_true rfl, Nat.le_of_ble_eq_true rfl⟩ hG [0, 1, 2, 3, 4] rfl 0 rfl rfl rfl rfl rfl (Nat.le_of_ble_eq_true rfl) hl.1 ⟨Nat.zero_le _, Nat.zero_le _⟩ dX1_endYOf_2 ?_
  refine zz_ifb_eq (pc := 5) (tgt := 19) S dX1_endYOf_5 (by decide) (fun c5 => ?_) (fun c5 => ?_)
  · refine zz_iconst (pc := 19) (v := nI 0) S dX1_endYOf_19 rfl ?_
    exact zz_iretS (pc := 20) S hr hlocks (congrArg nI (by simp only [oX]; first | rw [if_pos (by omega)] | rw [if_neg (by omega)])) dX1_endYOf_20
  · refine lv_aload_n (pc := 8) S.1 S.2.1 dX1_endYOf_8 rfl (lv_at hl 0 rfl) ?_
    refine zz_get (pc := 9) S hG iX1 0 rfl rfl 3 (by decide) wd_41 rfl rfl dX1_endYOf_9 ?_
    have hsw := sw_lt (c := a.toNat) (n := n) (by omega)
    refine lv_iload_n (pc := 12) S.1 S.2.1 dX1_endYOf_12 rfl (lv_at hl 1 rfl) ?_
    refine zz_cast (v := nI a.toNat) (zn_of (by omega)) ?_
    refine zz_iconst (pc := 13) (v := nI 1) S dX1_endYOf_13 rfl ?_
    refine zz_ixor (pc := 14) (v := nI (sw a.toNat)) S dX1_endYOf_14 (n_xor1 _) ?_
    refine zz_iald (pc := 15) (k := sw a.toNat) S hG 3 rfl (by omega) dX1_endYOf_15 ?_
    have g1 := (hXY (sw a.toNat) (by omega)).2
    refine lv_goto (pc := 16) (tgt := 20) S.1 S.2.1 dX1_endYOf_16 (by decide) ?_
    exact zz_iretS (pc := 20) S hr hlocks (congrArg nI (by simp only [oX]; first | rw [if_pos (by omega)] | rw [if_neg (by omega)])) dX1_endYOf_20
abbrev wm_X1_penOfCode : List Cond := .code yX1_penOfCode cX1_penOfCode 2 (some .int) :: wU
theorem q_X1_penOfCode : yX1_penOfCode.cls = RX1 ∧ yX1_penOfCode.cls ≠ "java/lang/invoke/MethodHandle" ∧ yX1_penOfCode.cls ≠ "java/lang/invoke/VarHandle" ∧ (parseMethodDescriptor yX1_penOfCode.desc).map (fun d => d.parameters.length) = some 1 := by decide +kernel
set_option maxHeartbeats 4000000 in
set_option maxRecDepth 100000 in
theorem c_X1_penOfCode (l : Launch) (D : va_G) (cI cR : ClassId) (d e1 e2 e3 e4 n : Nat) (P X Y L : Nat → Nat) (a : Int) (hok : zOk n P X Y L) (ha : -1 ≤ a ∧ a < 2 * (n : Int)) : Met l yX1_penOfCode wm_X1_penOfCode ({ frames := 1, cells := 0, slots := 0, locals := 21 } : Room) (va_Pc [.ref d, .int (zI a)] (zW D cI cR [(d, .inr (1, [.int (nI n), .ref e1, .ref e2, .ref e3, .ref e4])), (e1, zA cI 8 P), (e2, zA cI 16 X), (e3, zA cI 16 Y), (e4, zA cI 8 L)])) (vp_Si (fun r => r = zI (oP P a))) 0 0 (fun _ => False) := by
  refine Met.ofW (cc := cX1_penOfCode) (maxL := 2) (ret := (some .int)) (by decide) rfl ?_
  intro p e s m args below meth c s₁ B hml hv
  obtain ⟨rfl, hG⟩ := hv
  have S : CallFix p m c cX1_penOfCode 2 s ([.ref d, .int (zI a)] : List Value).toArray wU RX1 := ⟨B.exec, B.bytes, hml, findClass_of_methodNamed B.named, fun w h => atoms_spec (ws := wm_X1_penOfCode) B.pre w (List.mem_cons_of_mem _ h)⟩
  have hr := B.returns
  have hlocks := B.notSynchronized
  have hG : zG D cI cR [(d, .inr (1, [.int (nI n), .ref e1, .ref e2, .ref e3, .ref e4])), (e1, zA cI 8 P), (e2, zA cI 16 X), (e3, zA cI 16 Y), (e4, zA cI 8 L)] s s.heap := hG
  have hl := lv_entry ([.ref d, .int (zI a)]) (n := 2) (Nat.le_of_ble_eq_true rfl)
  rw [lg_entry_eq]
  generalize (lg_sl ([.ref d, .int (zI a)]) ++ List.replicate (2 - (lg_sl ([.ref d, .int (zI a)])).length) Slot.unset).toArray = ls at hl ⊢
  have hl : lv_has ls 2 [(0, .ref d), (1, .int (zI a))] := hl
  obtain ⟨hn, hPf, hXY, hLf, hinj⟩ := id hok
  refine lv_aload_n (pc := 0) S.1 S.2.1 dX1_penOfCode_0 rfl (lv_at hl 0 rfl) ?_
  refine lv_iload_n (pc := 1) S.1 S.2.1 dX1_penOfCode_1 rfl (lv_at hl 1 rfl) ?_
  refine zz_callV (pc := 2) (As := [.int (zI a)]) (rest := []) S (c_X1_hasCode l D cI cR d e1 e2 e3 e4 n P X Y L a hok (by unfold zR; omega)) (zuV wd_218 wd_215 wd_216 wd_217 wd_14) 1 rfl q_X1_hasCode ⟨⟨rfl, rfl⟩, Nat.le_of_ble_eq_true rfl, Nat.le_of_ble_eq_true rfl⟩ hG [0, 1, 2, 3, 4] rfl 0 rfl rfl rfl rfl rfl (Nat.le_of_ble_eq_true rfl) hl.1 ⟨Nat.zero_le _, Nat.zero_le _⟩ dX1_penOfCode_2 ?_
  refine zz_ifb_eq (pc := 5) (tgt := 19) S dX1_penOfCode_5 (by decide) (fun c5 => ?_) (fun c5 => ?_)
  · refine zz_iconst (pc := 19) (v := zI (-1)) S dX1_penOfCode_19 rfl ?_
    exact zz_iretS (pc := 20) S hr hlocks (congrArg zI (a₁ := (-1)) (by simp only [oP]; first | rw [if_pos (by omega)] | rw [if_neg (by omega)])) dX1_penOfCode_20
  · refine lv_aload_n (pc := 8) S.1 S.2.1 dX1_penOfCode_8 rfl (lv_at hl 0 rfl) ?_
    refine zz_get (pc := 9) S hG iX1 0 rfl rfl 1 (by decide) wd_39 rfl rfl dX1_penOfCode_9 ?_
    refine lv_iload_n (pc := 12) S.1 S.2.1 dX1_penOfCode_12 rfl (lv_at hl 1 rfl) ?_
    refine zz_cast (v := nI a.toNat) (zn_of (by omega)) ?_
    refine zz_iconst (pc := 13) (v := nI 2) S dX1_penOfCode_13 rfl ?_
    refine zz_idiv (pc := 14) (v := nI (a.toNat / 2)) S dX1_penOfCode_14 (by decide) (n_div (by omega) (by decide) (by decide)) ?_
    refine zz_iald (pc := 15) (k := a.toNat / 2) S hG 1 rfl (by omega) dX1_penOfCode_15 ?_
    have g1 := hPf (a.toNat / 2) (by omega)
    refine lv_goto (pc := 16) (tgt := 20) S.1 S.2.1 dX1_penOfCode_16 (by decide) ?_
    exact zz_iretS (pc := 20) S hr hlocks (congrArg zI (a₁ := ((P (a.toNat / 2) : Nat) : Int)) (by simp only [oP]; first | rw [if_pos (by omega)] | rw [if_neg (by omega)])) dX1_penOfCode_20
abbrev wm_X1_changesPen : List Cond := .code yX1_changesPen cX1_changesPen 3 (some .boolean) :: wU
theorem q_X1_changesPen : yX1_changesPen.cls = RX1 ∧ yX1_changesPen.cls ≠ "java/lang/invoke/MethodHandle" ∧ yX1_changesPen.cls ≠ "java/lang/invoke/VarHandle" ∧ (parseMethodDescriptor yX1_changesPen.desc).map (fun d => d.parameters.length) = some 2 := by decide +kernel
set_option maxHeartbeats 4000000 in
set_option maxRecDepth 100000 in
theorem c_X1_changesPen (l : Launch) (D : va_G) (cI cR : ClassId) (d e1 e2 e3 e4 n : Nat) (P X Y L : Nat → Nat) (a : Int) (b : Int) (hok : zOk n P X Y L) (ha : -1 ≤ a ∧ a < 2 * (n : Int)) (hb : -1 ≤ b ∧ b < 2 * (n : Int)) : Met l yX1_changesPen wm_X1_changesPen ({ frames := 2, cells := 0, slots := 0, locals := 42 } : Room) (va_Pc [.ref d, .int (zI a), .int (zI b)] (zW D cI cR [(d, .inr (1, [.int (nI n), .ref e1, .ref e2, .ref e3, .ref e4])), (e1, zA cI 8 P), (e2, zA cI 16 X), (e3, zA cI 16 Y), (e4, zA cI 8 L)])) (vp_Si (fun r => r = nI (zB (¬ oP P a = oP P b)))) 0 0 (fun _ => False) := by
  refine Met.ofW (cc := cX1_changesPen) (maxL := 3) (ret := (some .boolean)) (by decide) rfl ?_
  intro p e s m args below meth c s₁ B hml hv
  obtain ⟨rfl, hG⟩ := hv
  have S : CallFix p m c cX1_changesPen 3 s ([.ref d, .int (zI a), .int (zI b)] : List Value).toArray wU RX1 := ⟨B.exec, B.bytes, hml, findClass_of_methodNamed B.named, fun w h => atoms_spec (ws := wm_X1_changesPen) B.pre w (List.mem_cons_of_mem _ h)⟩
  have hr := B.returns
  have hlocks := B.notSynchronized
  have hG : zG D cI cR [(d, .inr (1, [.int (nI n), .ref e1, .ref e2, .ref e3, .ref e4])), (e1, zA cI 8 P), (e2, zA cI 16 X), (e3, zA cI 16 Y), (e4, zA cI 8 L)] s s.heap := hG
  have hl := lv_entry ([.ref d, .int (zI a), .int (zI b)]) (n := 3) (Nat.le_of_ble_eq_true rfl)
  rw [lg_entry_eq]
  generalize (lg_sl ([.ref d, .int (zI a), .int (zI b)]) ++ List.replicate (3 - (lg_sl ([.ref d, .int (zI a), .int (zI b)])).length) Slot.unset).toArray = ls at hl ⊢
  have hl : lv_has ls 3 [(0, .ref d), (1, .int (zI a)), (2, .int (zI b))] := hl
  obtain ⟨hn, hPf, hXY, hLf, hinj⟩ := id hok
  refine lv_aload_n (pc := 0) S.1 S.2.1 dX1_changesPen_0 rfl (lv_at hl 0 rfl) ?_
  refine lv_iload_n (pc := 1) S.1 S.2.1 dX1_changesPen_1 rfl (lv_at hl 1 rfl) ?_
  refine zz_callV (pc := 2) (As := [.int (zI a)]) (rest := []) S (c_X1_penOfCode l D cI cR d e1 e2 e3 e4 n P X Y L a hok (by omega)) (zuV wd_422 wd_419 wd_420 wd_421 wd_14) 1 rfl q_X1_penOfCode ⟨⟨rfl, rfl⟩, Nat.le_of_ble_eq_true rfl, Nat.le_of_ble_eq_true rfl⟩ hG [0, 1, 2, 3, 4] rfl 0 rfl rfl rfl rfl rfl (Nat.le_of_ble_eq_true rfl) hl.1 ⟨Nat.zero_le _, Nat.zero_le _⟩ dX1_changesPen_2 ?_
  have g1 := oP_le (a := a) (P := P) (n := n) hPf (by omega)
  refine lv_aload_n (pc := 5) S.1 S.2.1 dX1_changesPen_5 rfl (lv_at hl 0 rfl) ?_
  refine lv_iload_n (pc := 6) S.1 S.2.1 dX1_changesPen_6 rfl (lv_at hl 2 rfl) ?_
  refine zz_callV (pc := 7) (As := [.int (zI b)]) (rest := [.int (zI (oP P a))]) S (c_X1_penOfCode l D cI cR d e1 e2 e3 e4 n P X Y L b hok (by omega)) (zuV wd_422 wd_419 wd_420 wd_421 wd_14) 1 rfl q_X1_penOfCode ⟨⟨rfl, rfl⟩, Nat.le_of_ble_eq_true rfl, Nat.le_of_ble_eq_true rfl⟩ hG [0, 1, 2, 3, 4] rfl 0 rfl rfl rfl rfl rfl (Nat.le_of_ble_eq_true rfl) hl.1 ⟨Nat.zero_le _, Nat.zero_le _⟩ dX1_changesPen_7 ?_
  have g2 := oP_le (a := b) (P := P) (n := n) hPf (by omega)
  refine zz_icmp_eq (pc := 10) (tgt := 17) S dX1_changesPen_10 (by decide) (zI_eq (a := oP P a) (b := oP P b) (by unfold zR; omega) (by unfold zR; omega)) (fun c10 => ?_) (fun c10 => ?_)
  · refine zz_iconst (pc := 17) (v := nI 0) S dX1_changesPen_17 rfl ?_
    exact zz_bretS (pc := 18) S hr hlocks (by decide) (congrArg nI (zB_f (by first | omega | simp [*])).symm) dX1_changesPen_18
  · refine zz_iconst (pc := 13) (v := nI 1) S dX1_changesPen_13 rfl ?_
    refine lv_goto (pc := 14) (tgt := 18) S.1 S.2.1 dX1_changesPen_14 (by decide) ?_
    exact zz_bretS (pc := 18) S hr hlocks (by decide) (congrArg nI (zB_t (by first | omega | simp [*])).symm) dX1_changesPen_18
abbrev wm_X1_stepCost : List Cond := .code yX1_stepCost cX1_stepCost 5 (some .int) :: wU
theorem q_X1_stepCost : yX1_stepCost.cls = RX1 ∧ yX1_stepCost.cls ≠ "java/lang/invoke/MethodHandle" ∧ yX1_stepCost.cls ≠ "java/lang/invoke/VarHandle" ∧ (parseMethodDescriptor yX1_stepCost.desc).map (fun d => d.parameters.length) = some 3 := by decide +kernel
set_option maxHeartbeats 4000000 in
set_option maxRecDepth 100000 in
theorem c_X1_stepCost (l : Launch) (D : va_G) (cI cR : ClassId) (d e1 e2 e3 e4 n : Nat) (P X Y L : Nat → Nat) (a : Int) (b : Nat) (C : Nat) (hok : zOk n P X Y L) (ha : -1 ≤ a ∧ a < 2 * (n : Int)) (hb : b < 2 * n) (hC : C ≤ 500) : Met l yX1_stepCost wm_X1_stepCost ({ frames := 3, cells := 0, slots := 0, locals := 64 } : Room) (va_Pc [.ref d, .int (zI a), .int (nI b), .int (nI C)] (zW D cI cR [(d, .inr (1, [.int (nI n), .ref e1, .ref e2, .ref e3, .ref e4])), (e1, zA cI 8 P), (e2, zA cI 16 X), (e3, zA cI 16 Y), (e4, zA cI 8 L)])) (vp_Si (fun r => r = nI (stp P X Y C a b))) 0 0 (fun _ => False) := by
  refine Met.ofW (cc := cX1_stepCost) (maxL := 5) (ret := (some .int)) (by decide) rfl ?_
  intro p e s m args below meth c s₁ B hml hv
  obtain ⟨rfl, hG⟩ := hv
  have S : CallFix p m c cX1_stepCost 5 s ([.ref d, .int (zI a), .int (nI b), .int (nI C)] : List Value).toArray wU RX1 := ⟨B.exec, B.bytes, hml, findClass_of_methodNamed B.named, fun w h => atoms_spec (ws := wm_X1_stepCost) B.pre w (List.mem_cons_of_mem _ h)⟩
  have hr := B.returns
  have hlocks := B.notSynchronized
  have hG : zG D cI cR [(d, .inr (1, [.int (nI n), .ref e1, .ref e2, .ref e3, .ref e4])), (e1, zA cI 8 P), (e2, zA cI 16 X), (e3, zA cI 16 Y), (e4, zA cI 8 L)] s s.heap := hG
  have hl := lv_entry ([.ref d, .int (zI a), .int (nI b), .int (nI C)]) (n := 5) (Nat.le_of_ble_eq_true rfl)
  rw [lg_entry_eq]
  generalize (lg_sl ([.ref d, .int (zI a), .int (nI b), .int (nI C)]) ++ List.replicate (5 - (lg_sl ([.ref d, .int (zI a), .int (nI b), .int (nI C)])).length) Slot.unset).toArray = ls at hl ⊢
  have hl : lv_has ls 5 [(0, .ref d), (1, .int (zI a)), (2, .int (nI b)), (3, .int (nI C))] := hl
  obtain ⟨hn, hPf, hXY, hLf, hinj⟩ := id hok
  refine lv_aload_n (pc := 0) S.1 S.2.1 dX1_stepCost_0 rfl (lv_at hl 0 rfl) ?_
  refine lv_iload_n (pc := 1) S.1 S.2.1 dX1_stepCost_1 rfl (lv_at hl 1 rfl) ?_
  refine zz_callV (pc := 2) (As := [.int (zI a)]) (rest := []) S (c_X1_endXOf l D cI cR d e1 e2 e3 e4 n P X Y L a hok (by omega)) (zuV wd_254 wd_251 wd_252 wd_253 wd_14) 1 rfl q_X1_endXOf ⟨⟨rfl, rfl⟩, Nat.le_of_ble_eq_true rfl, Nat.le_of_ble_eq_true rfl⟩ hG [0, 1, 2, 3, 4] rfl 0 rfl rfl rfl rfl rfl (Nat.le_of_ble_eq_true rfl) hl.1 ⟨Nat.zero_le _, Nat.zero_le _⟩ dX1_stepCost_2 ?_
  have g1 := oX_le (a := a) (X := X) (n := n) (fun c h => (hXY c h).1) (by omega)
  refine lv_aload_n (pc := 5) S.1 S.2.1 dX1_stepCost_5 rfl (lv_at hl 0 rfl) ?_
  refine lv_iload_n (pc := 6) S.1 S.2.1 dX1_stepCost_6 rfl (lv_at hl 1 rfl) ?_
  refine zz_callV (pc := 7) (As := [.int (zI a)]) (rest := [.int (nI (oX X a))]) S (c_X1_endYOf l D cI cR d e1 e2 e3 e4 n P X Y L a hok (by omega)) (zuV wd_258 wd_255 wd_256 wd_257 wd_14) 1 rfl q_X1_endYOf ⟨⟨rfl, rfl⟩, Nat.le_of_ble_eq_true rfl, Nat.le_of_ble_eq_true rfl⟩ hG [0, 1, 2, 3, 4] rfl 0 rfl rfl rfl rfl rfl (Nat.le_of_ble_eq_true rfl) hl.1 ⟨Nat.zero_le _, Nat.zero_le _⟩ dX1_stepCost_7 ?_
  have g2 := oX_le (a := a) (X := Y) (n := n) (fun c h => (hXY c h).2) (by omega)
  refine lv_aload_n (pc := 10) S.1 S.2.1 dX1_stepCost_10 rfl (lv_at hl 0 rfl) ?_
  refine lv_iload_n (pc := 11) S.1 S.2.1 dX1_stepCost_11 rfl (lv_at hl 2 rfl) ?_
  refine zz_callV (pc := 12) (As := [.int (nI b)]) (rest := [.int (nI (oX Y a)), .int (nI (oX X a))]) S (c_X1_beginXOf l D cI cR d e1 e2 e3 e4 n P X Y L b hok (by omega)) (zuV wd_214 wd_211 wd_212 wd_213 wd_14) 1 rfl q_X1_beginXOf ⟨⟨rfl, rfl⟩, Nat.le_of_ble_eq_true rfl, Nat.le_of_ble_eq_true rfl⟩ hG [0, 1, 2, 3, 4] rfl 0 rfl rfl rfl rfl rfl (Nat.le_of_ble_eq_true rfl) hl.1 ⟨Nat.zero_le _, Nat.zero_le _⟩ dX1_stepCost_12 ?_
  have g3 := (hXY b (by omega)).1
  refine lv_aload_n (pc := 15) S.1 S.2.1 dX1_stepCost_15 rfl (lv_at hl 0 rfl) ?_
  refine lv_iload_n (pc := 16) S.1 S.2.1 dX1_stepCost_16 rfl (lv_at hl 2 rfl) ?_
  refine zz_callV (pc := 17) (As := [.int (nI b)]) (rest := [.int (nI (X b)), .int (nI (oX Y a)), .int (nI (oX X a))]) S (c_X1_beginYOf l D cI cR d e1 e2 e3 e4 n P X Y L b hok (by omega)) (zuV wd_222 wd_219 wd_220 wd_221 wd_14) 1 rfl q_X1_beginYOf ⟨⟨rfl, rfl⟩, Nat.le_of_ble_eq_true rfl, Nat.le_of_ble_eq_true rfl⟩ hG [0, 1, 2, 3, 4] rfl 0 rfl rfl rfl rfl rfl (Nat.le_of_ble_eq_true rfl) hl.1 ⟨Nat.zero_le _, Nat.zero_le _⟩ dX1_stepCost_17 ?_
  have g4 := (hXY b (by omega)).2
  refine zz_callS (pc := 20) (As := [.int (nI (oX X a)), .int (nI (oX Y a)), .int (nI (X b)), .int (nI (Y b))]) (rest := []) S (c_X1_wayLength l D cI cR (oX X a) (oX Y a) (X b) (Y b) (by omega)) (zuS wd_411 wd_409 wd_410 wd_14) 4 rfl q_X1_wayLength.2 ⟨⟨rfl, rfl⟩, Nat.le_of_ble_eq_true rfl, Nat.le_of_ble_eq_true rfl⟩ rfl rfl (Nat.le_of_ble_eq_true rfl) hl.1 ⟨Nat.zero_le _, Nat.zero_le _⟩ dX1_stepCost_20 ?_
  have g5 := zfar_le (x1 := (oX X a)) (x2 := (X b)) (y1 := (oX Y a)) (y2 := (Y b)) (by omega)
  refine lv_istore (pc := 23) (lv' := [(4, .int (nI (zfar (((oX X a) : Int) - ((X b) : Int)) (((oX Y a) : Int) - ((Y b) : Int))))), (0, .ref d), (1, .int (zI a)), (2, .int (nI b)), (3, .int (nI C))]) S.1 S.2.1 dX1_stepCost_23 hl (by decide) rfl (fun ls hl => ?_)
  refine lv_iload (pc := 25) S.1 S.2.1 dX1_stepCost_25 (lv_at hl 0 rfl) ?_
  refine lv_aload_n (pc := 27) S.1 S.2.1 dX1_stepCost_27 rfl (lv_at hl 1 rfl) ?_
  refine lv_iload_n (pc := 28) S.1 S.2.1 dX1_stepCost_28 rfl (lv_at hl 2 rfl) ?_
  refine lv_iload_n (pc := 29) S.1 S.2.1 dX1_stepCost_29 rfl (lv_at hl 3 rfl) ?_
  have J6 : ∀ ls : Array Slot, lv_has ls 5 [(0, .ref d), (1, .int (zI a)), (2, .int (nI b)), (3, .int (nI C)), (4, .int (nI (zfar (((oX X a) : Int) - ((X b) : Int)) (((oX Y a) : Int) - ((Y b) : Int)))))] → W p l e (headSpec wm_X1_stepCost ({ frames := 3, cells := 0, slots := 0, locals := 64 } : Room)).room s m ([.ref d, .int (zI a), .int (nI b), .int (nI C)] : List Value).toArray below meth c s.heap [] 0 0 (MQ below (vp_Si (fun r => r = nI (stp P X Y C a b))) ([.ref d, .int (zI a), .int (nI b), .int (nI C)] : List Value).toArray s 0 0 (fun _ => False)) (F0 m 41 ls [.int (nI (if oP P a = oP P (b : Int) then 0 else C)), .int (nI (zfar (((oX X a) : Int) - ((X b) : Int)) (((oX Y a) : Int) - ((Y b) : Int))))]) := by
    intro ls hl
    have hif : (if oP P a = oP P (b : Int) then 0 else C) ≤ 500 := by split <;> omega
    refine zz_iadd (pc := 41) (v := nI ((zfar (((oX X a) : Int) - ((X b) : Int)) (((oX Y a) : Int) - ((Y b) : Int))) + (if oP P a = oP P (b : Int) then 0 else C))) S dX1_stepCost_41 (n_add _ _) ?_
    exact zz_iretS (pc := 42) S hr hlocks (congrArg nI (by rfl)) dX1_stepCost_42
  refine zz_callV (pc := 30) (As := [.int (zI a), .int (zI ((b : Nat) : Int))]) (rest := [.int (nI (zfar (((oX X a) : Int) - ((X b) : Int)) (((oX Y a) : Int) - ((Y b) : Int))))]) S (c_X1_changesPen l D cI cR d e1 e2 e3 e4 n P X Y L a ((b : Nat) : Int) hok (by omega) (by omega)) (zuV wd_418 wd_415 wd_416 wd_417 wd_14) 2 rfl q_X1_changesPen ⟨⟨rfl, rfl⟩, Nat.le_of_ble_eq_true rfl, Nat.le_of_ble_eq_true rfl⟩ hG [0, 1, 2, 3, 4] rfl 0 rfl rfl rfl rfl rfl (Nat.le_of_ble_eq_true rfl) hl.1 ⟨Nat.zero_le _, Nat.zero_le _⟩ dX1_stepCost_30 ?_
  refine zz_ifb_eq (pc := 33) (tgt := 40) S dX1_stepCost_33 (by decide) (fun c33 => ?_) (fun c33 => ?_)
  · refine zz_iconst (pc := 40) (v := nI 0) S dX1_stepCost_40 rfl ?_
    refine zz_cast (v := nI (if oP P a = oP P (b : Int) then 0 else C)) (congrArg nI (by first | rw [if_pos (by omega)] | rw [if_neg (by omega)])) ?_
    exact J6 ls (lv_sub hl [1, 2, 3, 4, 0] rfl)
  · refine lv_iload_n (pc := 36) S.1 S.2.1 dX1_stepCost_36 rfl (lv_at hl 4 rfl) ?_
    refine lv_goto (pc := 37) (tgt := 41) S.1 S.2.1 dX1_stepCost_37 (by decide) ?_
    refine zz_cast (v := nI (if oP P a = oP P (b : Int) then 0 else C)) (congrArg nI (by first | rw [if_pos (by omega)] | rw [if_neg (by omega)])) ?_
    exact J6 ls (lv_sub hl [1, 2, 3, 4, 0] rfl)
abbrev wm_X1_samePoint : List Cond := .code yX1_samePoint cX1_samePoint 3 (some .boolean) :: wU
theorem q_X1_samePoint : yX1_samePoint.cls = RX1 ∧ yX1_samePoint.cls ≠ "java/lang/invoke/MethodHandle" ∧ yX1_samePoint.cls ≠ "java/lang/invoke/VarHandle" ∧ (parseMethodDescriptor yX1_samePoint.desc).map (fun d => d.parameters.length) = some 2 := by decide +kernel
set_option maxHeartbeats 4000000 in
set_option maxRecDepth 100000 in
theorem c_X1_samePoint (l : Launch) (D : va_G) (cI cR : ClassId) (d e1 e2 e3 e4 n : Nat) (P X Y L : Nat → Nat) (a : Nat) (b : Nat) (hok : zOk n P X Y L) (ha : a < 2 * n) (hb : b < 2 * n) : Met l yX1_samePoint wm_X1_samePoint ({ frames := 2, cells := 0, slots := 0, locals := 42 } : Room) (va_Pc [.ref d, .int (nI a), .int (nI b)] (zW D cI cR [(d, .inr (1, [.int (nI n), .ref e1, .ref e2, .ref e3, .ref e4])), (e1, zA cI 8 P), (e2, zA cI 16 X), (e3, zA cI 16 Y), (e4, zA cI 8 L)])) (vp_Si (fun r => r = nI (zB (X a = X b ∧ Y a = Y b)))) 0 0 (fun _ => False) := by
  refine Met.ofW (cc := cX1_samePoint) (maxL := 3) (ret := (some .boolean)) (by decide) rfl ?_
  intro p e s m args below meth c s₁ B hml hv
  obtain ⟨rfl, hG⟩ := hv
  have S : CallFix p m c cX1_samePoint 3 s ([.ref d, .int (nI a), .int (nI b)] : List Value).toArray wU RX1 := ⟨B.exec, B.bytes, hml, findClass_of_methodNamed B.named, fun w h => atoms_spec (ws := wm_X1_samePoint) B.pre w (List.mem_cons_of_mem _ h)⟩
  have hr := B.returns
  have hlocks := B.notSynchronized
  have hG : zG D cI cR [(d, .inr (1, [.int (nI n), .ref e1, .ref e2, .ref e3, .ref e4])), (e1, zA cI 8 P), (e2, zA cI 16 X), (e3, zA cI 16 Y), (e4, zA cI 8 L)] s s.heap := hG
  have hl := lv_entry ([.ref d, .int (nI a), .int (nI b)]) (n := 3) (Nat.le_of_ble_eq_true rfl)
  rw [lg_entry_eq]
  generalize (lg_sl ([.ref d, .int (nI a), .int (nI b)]) ++ List.replicate (3 - (lg_sl ([.ref d, .int (nI a), .int (nI b)])).length) Slot.unset).toArray = ls at hl ⊢
  have hl : lv_has ls 3 [(0, .ref d), (1, .int (nI a)), (2, .int (nI b))] := hl
  obtain ⟨hn, hPf, hXY, hLf, hinj⟩ := id hok
  refine lv_aload_n (pc := 0) S.1 S.2.1 dX1_samePoint_0 rfl (lv_at hl 0 rfl) ?_
  refine lv_iload_n (pc := 1) S.1 S.2.1 dX1_samePoint_1 rfl (lv_at hl 1 rfl) ?_
  refine zz_callV (pc := 2) (As := [.int (nI a)]) (rest := []) S (c_X1_beginXOf l D cI cR d e1 e2 e3 e4 n P X Y L a hok (by omega)) (zuV wd_214 wd_211 wd_212 wd_213 wd_14) 1 rfl q_X1_beginXOf ⟨⟨rfl, rfl⟩, Nat.le_of_ble_eq_true rfl, Nat.le_of_ble_eq_true rfl⟩ hG [0, 1, 2, 3, 4] rfl 0 rfl rfl rfl rfl rfl (Nat.le_of_ble_eq_true rfl) hl.1 ⟨Nat.zero_le _, Nat.zero_le _⟩ dX1_samePoint_2 ?_
  have g1 := (hXY a (by omega)).1
  refine lv_aload_n (pc := 5) S.1 S.2.1 dX1_samePoint_5 rfl (lv_at hl 0 rfl) ?_
  refine lv_iload_n (pc := 6) S.1 S.2.1 dX1_samePoint_6 rfl (lv_at hl 2 rfl) ?_
  refine zz_callV (pc := 7) (As := [.int (nI b)]) (rest := [.int (nI (X a))]) S (c_X1_beginXOf l D cI cR d e1 e2 e3 e4 n P X Y L b hok (by omega)) (zuV wd_214 wd_211 wd_212 wd_213 wd_14) 1 rfl q_X1_beginXOf ⟨⟨rfl, rfl⟩, Nat.le_of_ble_eq_true rfl, Nat.le_of_ble_eq_true rfl⟩ hG [0, 1, 2, 3, 4] rfl 0 rfl rfl rfl rfl rfl (Nat.le_of_ble_eq_true rfl) hl.1 ⟨Nat.zero_le _, Nat.zero_le _⟩ dX1_samePoint_7 ?_
  have g2 := (hXY b (by omega)).1
  refine zz_icmp_ne (pc := 10) (tgt := 30) S dX1_samePoint_10 (by decide) (n_eq (by omega) (by omega)) (fun c10 => ?_) (fun c10 => ?_)
  · refine zz_iconst (pc := 30) (v := nI 0) S dX1_samePoint_30 rfl ?_
    exact zz_bretS (pc := 31) S hr hlocks (by decide) (congrArg nI (zB_f (by first | omega | rfl)).symm) dX1_samePoint_31
  · refine lv_aload_n (pc := 13) S.1 S.2.1 dX1_samePoint_13 rfl (lv_at hl 0 rfl) ?_
    refine lv_iload_n (pc := 14) S.1 S.2.1 dX1_samePoint_14 rfl (lv_at hl 1 rfl) ?_
    refine zz_callV (pc := 15) (As := [.int (nI a)]) (rest := []) S (c_X1_beginYOf l D cI cR d e1 e2 e3 e4 n P X Y L a hok (by omega)) (zuV wd_222 wd_219 wd_220 wd_221 wd_14) 1 rfl q_X1_beginYOf ⟨⟨rfl, rfl⟩, Nat.le_of_ble_eq_true rfl, Nat.le_of_ble_eq_true rfl⟩ hG [0, 1, 2, 3, 4] rfl 0 rfl rfl rfl rfl rfl (Nat.le_of_ble_eq_true rfl) hl.1 ⟨Nat.zero_le _, Nat.zero_le _⟩ dX1_samePoint_15 ?_
    have g3 := (hXY a (by omega)).2
    refine lv_aload_n (pc := 18) S.1 S.2.1 dX1_samePoint_18 rfl (lv_at hl 0 rfl) ?_
    refine lv_iload_n (pc := 19) S.1 S.2.1 dX1_samePoint_19 rfl (lv_at hl 2 rfl) ?_
    refine zz_callV (pc := 20) (As := [.int (nI b)]) (rest := [.int (nI (Y a))]) S (c_X1_beginYOf l D cI cR d e1 e2 e3 e4 n P X Y L b hok (by omega)) (zuV wd_222 wd_219 wd_220 wd_221 wd_14) 1 rfl q_X1_beginYOf ⟨⟨rfl, rfl⟩, Nat.le_of_ble_eq_true rfl, Nat.le_of_ble_eq_true rfl⟩ hG [0, 1, 2, 3, 4] rfl 0 rfl rfl rfl rfl rfl (Nat.le_of_ble_eq_true rfl) hl.1 ⟨Nat.zero_le _, Nat.zero_le _⟩ dX1_samePoint_20 ?_
    have g4 := (hXY b (by omega)).2
    refine zz_icmp_ne (pc := 23) (tgt := 30) S dX1_samePoint_23 (by decide) (n_eq (by omega) (by omega)) (fun c23 => ?_) (fun c23 => ?_)
    · refine zz_iconst (pc := 30) (v := nI 0) S dX1_samePoint_30 rfl ?_
      exact zz_bretS (pc := 31) S hr hlocks (by decide) (congrArg nI (zB_f (by first | omega | rfl)).symm) dX1_samePoint_31
    · refine zz_iconst (pc := 26) (v := nI 1) S dX1_samePoint_26 rfl ?_
      refine lv_goto (pc := 27) (tgt := 31) S.1 S.2.1 dX1_samePoint_27 (by decide) ?_
      exact zz_bretS (pc := 31) S hr hlocks (by decide) (congrArg nI (zB_t (by first | omega | rfl)).symm) dX1_samePoint_31
abbrev wm_X1_lengthAt : List Cond := .code yX1_lengthAt cX1_lengthAt 3 (some .int) :: wU
theorem q_X1_lengthAt : yX1_lengthAt.cls = RX1 ∧ yX1_lengthAt.cls ≠ "java/lang/invoke/MethodHandle" ∧ yX1_lengthAt.cls ≠ "java/lang/invoke/VarHandle" ∧ (parseMethodDescriptor yX1_lengthAt.desc).map (fun d => d.parameters.length) = some 1 := by decide +kernel
set_option maxHeartbeats 4000000 in
set_option maxRecDepth 100000 in
theorem c_X1_lengthAt (l : Launch) (D : va_G) (cI cR : ClassId) (d e1 e2 e3 e4 n : Nat) (P X Y L : Nat → Nat) (a : Nat) (hok : zOk n P X Y L) (ha : a < n) : Met l yX1_lengthAt wm_X1_lengthAt ({ frames := 2, cells := 0, slots := 0, locals := 42 } : Room) (va_Pc [.ref d, .int (nI a)] (zW D cI cR [(d, .inr (1, [.int (nI n), .ref e1, .ref e2, .ref e3, .ref e4])), (e1, zA cI 8 P), (e2, zA cI 16 X), (e3, zA cI 16 Y), (e4, zA cI 8 L)])) (vp_Si (fun r => r = nI (lng X Y (L a)))) 0 0 (fun _ => False) := by
  refine Met.ofW (cc := cX1_lengthAt) (maxL := 3) (ret := (some .int)) (by decide) rfl ?_
  intro p e s m args below meth c s₁ B hml hv
  obtain ⟨rfl, hG⟩ := hv
  have S : CallFix p m c cX1_lengthAt 3 s ([.ref d, .int (nI a)] : List Value).toArray wU RX1 := ⟨B.exec, B.bytes, hml, findClass_of_methodNamed B.named, fun w h => atoms_spec (ws := wm_X1_lengthAt) B.pre w (List.mem_cons_of_mem _ h)⟩
  have hr := B.returns
  have hlocks := B.notSynchronized
  have hG : zG D cI cR [(d, .inr (1, [.int (nI n), .ref e1, .ref e2, .ref e3, .ref e4])), (e1, zA cI 8 P), (e2, zA cI 16 X), (e3, zA cI 16 Y), (e4, zA cI 8 L)] s s.heap := hG
  have hl := lv_entry ([.ref d, .int (nI a)]) (n := 3) (Nat.le_of_ble_eq_true rfl)
  rw [lg_entry_eq]
  generalize (lg_sl ([.ref d, .int (nI a)]) ++ List.replicate (3 - (lg_sl ([.ref d, .int (nI a)])).length) Slot.unset).toArray = ls at hl ⊢
  have hl : lv_has ls 3 [(0, .ref d), (1, .int (nI a))] := hl
  obtain ⟨hn, hPf, hXY, hLf, hinj⟩ := id hok
  refine lv_aload_n (pc := 0) S.1 S.2.1 dX1_lengthAt_0 rfl (lv_at hl 0 rfl) ?_
  refine lv_iload_n (pc := 1) S.1 S.2.1 dX1_lengthAt_1 rfl (lv_at hl 1 rfl) ?_
  refine zz_callV (pc := 2) (As := [.int (nI a)]) (rest := []) S (c_X1_codeAt l D cI cR d e1 e2 e3 e4 n P X Y L a hok (by omega)) (zuV wd_351 wd_622 wd_349 wd_350 wd_14) 1 rfl q_X1_codeAt ⟨⟨rfl, rfl⟩, Nat.le_of_ble_eq_true rfl, Nat.le_of_ble_eq_true rfl⟩ hG [0, 1, 2, 3, 4] rfl 0 rfl rfl rfl rfl rfl (Nat.le_of_ble_eq_true rfl) hl.1 ⟨Nat.zero_le _, Nat.zero_le _⟩ dX1_lengthAt_2 ?_
  have g1 := hLf a (by omega)
  refine lv_istore_n (pc := 5) (lv' := [(2, .int (nI (L a))), (0, .ref d), (1, .int (nI a))]) S.1 S.2.1 dX1_lengthAt_5 rfl hl (by decide) rfl (fun ls hl => ?_)
  refine lv_aload_n (pc := 6) S.1 S.2.1 dX1_lengthAt_6 rfl (lv_at hl 1 rfl) ?_
  refine lv_iload_n (pc := 7) S.1 S.2.1 dX1_lengthAt_7 rfl (lv_at hl 0 rfl) ?_
  refine zz_callV (pc := 8) (As := [.int (nI (L a))]) (rest := []) S (c_X1_beginXOf l D cI cR d e1 e2 e3 e4 n P X Y L (L a) hok (by omega)) (zuV wd_214 wd_211 wd_212 wd_213 wd_14) 1 rfl q_X1_beginXOf ⟨⟨rfl, rfl⟩, Nat.le_of_ble_eq_true rfl, Nat.le_of_ble_eq_true rfl⟩ hG [0, 1, 2, 3, 4] rfl 0 rfl rfl rfl rfl rfl (Nat.le_of_ble_eq_true rfl) hl.1 ⟨Nat.zero_le _, Nat.zero_le _⟩ dX1_lengthAt_8 ?_
  have g2 := (hXY (L a) (by omega)).1
  refine lv_aload_n (pc := 11) S.1 S.2.1 dX1_lengthAt_11 rfl (lv_at hl 1 rfl) ?_
  refine lv_iload_n (pc := 12) S.1 S.2.1 dX1_lengthAt_12 rfl (lv_at hl 0 rfl) ?_
  refine zz_callV (pc := 13) (As := [.int (nI (L a))]) (rest := [.int (nI (X (L a)))]) S (c_X1_beginYOf l D cI cR d e1 e2 e3 e4 n P X Y L (L a) hok (by omega)) (zuV wd_222 wd_219 wd_220 wd_221 wd_14) 1 rfl q_X1_beginYOf ⟨⟨rfl, rfl⟩, Nat.le_of_ble_eq_true rfl, Nat.le_of_ble_eq_true rfl⟩ hG [0, 1, 2, 3, 4] rfl 0 rfl rfl rfl rfl rfl (Nat.le_of_ble_eq_true rfl) hl.1 ⟨Nat.zero_le _, Nat.zero_le _⟩ dX1_lengthAt_13 ?_
  have g3 := (hXY (L a) (by omega)).2
  refine lv_aload_n (pc := 16) S.1 S.2.1 dX1_lengthAt_16 rfl (lv_at hl 1 rfl) ?_
  refine lv_iload_n (pc := 17) S.1 S.2.1 dX1_lengthAt_17 rfl (lv_at hl 0 rfl) ?_
  refine zz_callV (pc := 18) (As := [.int (zI ((L a : Nat) : Int))]) (rest := [.int (nI (Y (L a))), .int (nI (X (L a)))]) S (c_X1_endXOf l D cI cR d e1 e2 e3 e4 n P X Y L ((L a : Nat) : Int) hok (by omega)) (zuV wd_254 wd_251 wd_252 wd_253 wd_14) 1 rfl q_X1_endXOf ⟨⟨rfl, rfl⟩, Nat.le_of_ble_eq_true rfl, Nat.le_of_ble_eq_true rfl⟩ hG [0, 1, 2, 3, 4] rfl 0 rfl rfl rfl rfl rfl (Nat.le_of_ble_eq_true rfl) hl.1 ⟨Nat.zero_le _, Nat.zero_le _⟩ dX1_lengthAt_18 ?_
  refine zz_cast (v := nI (X (sw (L a)))) (congrArg nI (oX_n X (L a))) ?_
  have g4 := (hXY (sw (L a)) (sw_lt (by omega))).1
  refine lv_aload_n (pc := 21) S.1 S.2.1 dX1_lengthAt_21 rfl (lv_at hl 1 rfl) ?_
  refine lv_iload_n (pc := 22) S.1 S.2.1 dX1_lengthAt_22 rfl (lv_at hl 0 rfl) ?_
  refine zz_callV (pc := 23) (As := [.int (zI ((L a : Nat) : Int))]) (rest := [.int (nI (X (sw (L a)))), .int (nI (Y (L a))), .int (nI (X (L a)))]) S (c_X1_endYOf l D cI cR d e1 e2 e3 e4 n P X Y L ((L a : Nat) : Int) hok (by omega)) (zuV wd_258 wd_255 wd_256 wd_257 wd_14) 1 rfl q_X1_endYOf ⟨⟨rfl, rfl⟩, Nat.le_of_ble_eq_true rfl, Nat.le_of_ble_eq_true rfl⟩ hG [0, 1, 2, 3, 4] rfl 0 rfl rfl rfl rfl rfl (Nat.le_of_ble_eq_true rfl) hl.1 ⟨Nat.zero_le _, Nat.zero_le _⟩ dX1_lengthAt_23 ?_
  refine zz_cast (v := nI (Y (sw (L a)))) (congrArg nI (oX_n Y (L a))) ?_
  have g5 := (hXY (sw (L a)) (sw_lt (by omega))).2
  refine zz_callS (pc := 26) (As := [.int (nI (X (L a))), .int (nI (Y (L a))), .int (nI (X (sw (L a)))), .int (nI (Y (sw (L a))))]) (rest := []) S (c_X1_wayLength l D cI cR (X (L a)) (Y (L a)) (X (sw (L a))) (Y (sw (L a))) (by omega)) (zuS wd_411 wd_409 wd_410 wd_14) 4 rfl q_X1_wayLength.2 ⟨⟨rfl, rfl⟩, Nat.le_of_ble_eq_true rfl, Nat.le_of_ble_eq_true rfl⟩ rfl rfl (Nat.le_of_ble_eq_true rfl) hl.1 ⟨Nat.zero_le _, Nat.zero_le _⟩ dX1_lengthAt_26 ?_
  have g6 := zfar_le (x1 := (X (L a))) (x2 := (X (sw (L a)))) (y1 := (Y (L a))) (y2 := (Y (sw (L a)))) (by omega)
  exact zz_iretS (pc := 29) S hr hlocks (congrArg nI (by first | rfl | (unfold lng dxx zfar; omega))) dX1_lengthAt_29
abbrev wm_X1_isLinkedToNext : List Cond := .code yX1_isLinkedToNext cX1_isLinkedToNext 4 (some .boolean) :: wU
theorem q_X1_isLinkedToNext : yX1_isLinkedToNext.cls = RX1 ∧ yX1_isLinkedToNext.cls ≠ "java/lang/invoke/MethodHandle" ∧ yX1_isLinkedToNext.cls ≠ "java/lang/invoke/VarHandle" ∧ (parseMethodDescriptor yX1_isLinkedToNext.desc).map (fun d => d.parameters.length) = some 1 := by decide +kernel
set_option maxHeartbeats 4000000 in
set_option maxRecDepth 100000 in
theorem c_X1_isLinkedToNext (l : Launch) (D : va_G) (cI cR : ClassId) (d e1 e2 e3 e4 n : Nat) (P X Y L : Nat → Nat) (a : Nat) (hok : zOk n P X Y L) (ha : a < n) : Met l yX1_isLinkedToNext wm_X1_isLinkedToNext ({ frames := 3, cells := 0, slots := 0, locals := 64 } : Room) (va_Pc [.ref d, .int (nI a)] (zW D cI cR [(d, .inr (1, [.int (nI n), .ref e1, .ref e2, .ref e3, .ref e4])), (e1, zA cI 8 P), (e2, zA cI 16 X), (e3, zA cI 16 Y), (e4, zA cI 8 L)])) (vp_Si (fun r => r = nI (zB (lnk n P X Y L a)))) 0 0 (fun _ => False) := by
  refine Met.ofW (cc := cX1_isLinkedToNext) (maxL := 4) (ret := (some .boolean)) (by decide) rfl ?_
  intro p e s m args below meth c s₁ B hml hv
  obtain ⟨rfl, hG⟩ := hv
  have S : CallFix p m c cX1_isLinkedToNext 4 s ([.ref d, .int (nI a)] : List Value).toArray wU RX1 := ⟨B.exec, B.bytes, hml, findClass_of_methodNamed B.named, fun w h => atoms_spec (ws := wm_X1_isLinkedToNext) B.pre w (List.mem_cons_of_mem _ h)⟩
  have hr := B.returns
  have hlocks := B.notSynchronized
  have hG : zG D cI cR [(d, .inr (1, [.int (nI n), .ref e1, .ref e2, .ref e3, .ref e4])), (e1, zA cI 8 P), (e2, zA cI 16 X), (e3, zA cI 16 Y), (e4, zA cI 8 L)] s s.heap := hG
  have hl := lv_entry ([.ref d, .int (nI a)]) (n := 4) (Nat.le_of_ble_eq_true rfl)
  rw [lg_entry_eq]
  generalize (lg_sl ([.ref d, .int (nI a)]) ++ List.replicate (4 - (lg_sl ([.ref d, .int (nI a)])).length) Slot.unset).toArray = ls at hl ⊢
  have hl : lv_has ls 4 [(0, .ref d), (1, .int (nI a))] := hl
  obtain ⟨hn, hPf, hXY, hLf, hinj⟩ := id hok
  refine lv_aload_n (pc := 0) S.1 S.2.1 dX1_isLinkedToNext_0 rfl (lv_at hl 0 rfl) ?_
  refine lv_iload_n (pc := 1) S.1 S.2.1 dX1_isLinkedToNext_1 rfl (lv_at hl 1 rfl) ?_
  refine zz_callV (pc := 2) (As := [.int (zI ((a : Nat) : Int))]) (rest := []) S (c_X1_hasPosition l D cI cR d e1 e2 e3 e4 n P X Y L ((a : Nat) : Int) hok (by unfold zR; omega)) (zuV wd_347 wd_352 wd_345 wd_346 wd_14) 1 rfl q_X1_hasPosition ⟨⟨rfl, rfl⟩, Nat.le_of_ble_eq_true rfl, Nat.le_of_ble_eq_true rfl⟩ hG [0, 1, 2, 3, 4] rfl 0 rfl rfl rfl rfl rfl (Nat.le_of_ble_eq_true rfl) hl.1 ⟨Nat.zero_le _, Nat.zero_le _⟩ dX1_isLinkedToNext_2 ?_
  refine zz_ifb_eq (pc := 5) (tgt := 18) S dX1_isLinkedToNext_5 (by decide) (fun c5 => ?_) (fun c5 => ?_)
  · refine zz_iconst (pc := 18) (v := nI 0) S dX1_isLinkedToNext_18 rfl ?_
    exact zz_bretS (pc := 19) S hr hlocks (by decide) (congrArg nI (zB_f (by first | omega | (exact ⟨by omega, by omega, by omega, by omega⟩) | (intro q; obtain ⟨q1, q2, q3, q4⟩ := q; omega))).symm) dX1_isLinkedToNext_19
  · refine lv_aload_n (pc := 8) S.1 S.2.1 dX1_isLinkedToNext_8 rfl (lv_at hl 0 rfl) ?_
    refine lv_iload_n (pc := 9) S.1 S.2.1 dX1_isLinkedToNext_9 rfl (lv_at hl 1 rfl) ?_
    refine zz_iconst (pc := 10) (v := nI 1) S dX1_isLinkedToNext_10 rfl ?_
    refine zz_iadd (pc := 11) (v := nI (a + 1)) S dX1_isLinkedToNext_11 (n_add _ _) ?_
    refine zz_callV (pc := 12) (As := [.int (zI ((a + 1 : Nat) : Int))]) (rest := []) S (c_X1_hasPosition l D cI cR d e1 e2 e3 e4 n P X Y L ((a + 1 : Nat) : Int) hok (by unfold zR; omega)) (zuV wd_347 wd_352 wd_345 wd_346 wd_14) 1 rfl q_X1_hasPosition ⟨⟨rfl, rfl⟩, Nat.le_of_ble_eq_true rfl, Nat.le_of_ble_eq_true rfl⟩ hG [0, 1, 2, 3, 4] rfl 0 rfl rfl rfl rfl rfl (Nat.le_of_ble_eq_true rfl) hl.1 ⟨Nat.zero_le _, Nat.zero_le _⟩ dX1_isLinkedToNext_12 ?_
    refine zz_ifb_ne (pc := 15) (tgt := 20) S dX1_isLinkedToNext_15 (by decide) (fun c15 => ?_) (fun c15 => ?_)
    · refine lv_aload_n (pc := 20) S.1 S.2.1 dX1_isLinkedToNext_20 rfl (lv_at hl 0 rfl) ?_
      refine zz_get (pc := 21) S hG iX1 0 rfl rfl 4 (by decide) wd_42 rfl rfl dX1_isLinkedToNext_21 ?_
      refine lv_iload_n (pc := 24) S.1 S.2.1 dX1_isLinkedToNext_24 rfl (lv_at hl 1 rfl) ?_
      refine zz_iald (pc := 25) (k := a) S hG 4 rfl (by omega) dX1_isLinkedToNext_25 ?_
      have g1 := hLf a (by omega)
      refine lv_istore_n (pc := 26) (lv' := [(2, .int (nI (L a))), (0, .ref d), (1, .int (nI a))]) S.1 S.2.1 dX1_isLinkedToNext_26 rfl hl (by decide) rfl (fun ls hl => ?_)
      refine lv_aload_n (pc := 27) S.1 S.2.1 dX1_isLinkedToNext_27 rfl (lv_at hl 1 rfl) ?_
      refine zz_get (pc := 28) S hG iX1 0 rfl rfl 4 (by decide) wd_42 rfl rfl dX1_isLinkedToNext_28 ?_
      refine lv_iload_n (pc := 31) S.1 S.2.1 dX1_isLinkedToNext_31 rfl (lv_at hl 2 rfl) ?_
      refine zz_iconst (pc := 32) (v := nI 1) S dX1_isLinkedToNext_32 rfl ?_
      refine zz_iadd (pc := 33) (v := nI (a + 1)) S dX1_isLinkedToNext_33 (n_add _ _) ?_
      refine zz_iald (pc := 34) (k := a + 1) S hG 4 rfl (by omega) dX1_isLinkedToNext_34 ?_
      have g2 := hLf (a + 1) (by omega)
      refine lv_istore_n (pc := 35) (lv' := [(3, .int (nI (L (a + 1)))), (2, .int (nI (L a))), (0, .ref d), (1, .int (nI a))]) S.1 S.2.1 dX1_isLinkedToNext_35 rfl hl (by decide) rfl (fun ls hl => ?_)
      refine lv_aload_n (pc := 36) S.1 S.2.1 dX1_isLinkedToNext_36 rfl (lv_at hl 2 rfl) ?_
      refine lv_iload_n (pc := 37) S.1 S.2.1 dX1_isLinkedToNext_37 rfl (lv_at hl 1 rfl) ?_
      refine lv_iload_n (pc := 38) S.1 S.2.1 dX1_isLinkedToNext_38 rfl (lv_at hl 0 rfl) ?_
      refine zz_callV (pc := 39) (As := [.int (zI ((L a : Nat) : Int)), .int (zI ((L (a + 1) : Nat) : Int))]) (rest := []) S (c_X1_changesPen l D cI cR d e1 e2 e3 e4 n P X Y L ((L a : Nat) : Int) ((L (a + 1) : Nat) : Int) hok (by omega) (by omega)) (zuV wd_418 wd_415 wd_416 wd_417 wd_14) 2 rfl q_X1_changesPen ⟨⟨rfl, rfl⟩, Nat.le_of_ble_eq_true rfl, Nat.le_of_ble_eq_true rfl⟩ hG [0, 1, 2, 3, 4] rfl 0 rfl rfl rfl rfl rfl (Nat.le_of_ble_eq_true rfl) hl.1 ⟨Nat.zero_le _, Nat.zero_le _⟩ dX1_isLinkedToNext_39 ?_
      refine zz_ifb_ne (pc := 42) (tgt := 75) S dX1_isLinkedToNext_42 (by decide) (fun c42 => ?_) (fun c42 => ?_)
      · have w1 : ¬ P (L a / 2) = P (L (a + 1) / 2) := by intro q; apply c42; rw [oP_n, oP_n, q]
        refine zz_iconst (pc := 75) (v := nI 0) S dX1_isLinkedToNext_75 rfl ?_
        exact zz_bretS (pc := 76) S hr hlocks (by decide) (congrArg nI (zB_f (by first | omega | (exact ⟨by omega, by omega, by omega, by omega⟩) | (intro q; obtain ⟨q1, q2, q3, q4⟩ := q; omega))).symm) dX1_isLinkedToNext_76
      · have w1 : P (L a / 2) = P (L (a + 1) / 2) := by have q := Decidable.not_not.mp c42; rw [oP_n, oP_n] at q; omega
        refine lv_aload_n (pc := 45) S.1 S.2.1 dX1_isLinkedToNext_45 rfl (lv_at hl 2 rfl) ?_
        refine lv_iload_n (pc := 46) S.1 S.2.1 dX1_isLinkedToNext_46 rfl (lv_at hl 1 rfl) ?_
        refine zz_callV (pc := 47) (As := [.int (zI ((L a : Nat) : Int))]) (rest := []) S (c_X1_endXOf l D cI cR d e1 e2 e3 e4 n P X Y L ((L a : Nat) : Int) hok (by omega)) (zuV wd_254 wd_251 wd_252 wd_253 wd_14) 1 rfl q_X1_endXOf ⟨⟨rfl, rfl⟩, Nat.le_of_ble_eq_true rfl, Nat.le_of_ble_eq_true rfl⟩ hG [0, 1, 2, 3, 4] rfl 0 rfl rfl rfl rfl rfl (Nat.le_of_ble_eq_true rfl) hl.1 ⟨Nat.zero_le _, Nat.zero_le _⟩ dX1_isLinkedToNext_47 ?_
        refine zz_cast (v := nI (X (sw (L a)))) (congrArg nI (oX_n X (L a))) ?_
        have g3 := (hXY (sw (L a)) (sw_lt (by omega))).1
        refine lv_aload_n (pc := 50) S.1 S.2.1 dX1_isLinkedToNext_50 rfl (lv_at hl 2 rfl) ?_
        refine lv_iload_n (pc := 51) S.1 S.2.1 dX1_isLinkedToNext_51 rfl (lv_at hl 0 rfl) ?_
        refine zz_callV (pc := 52) (As := [.int (nI (L (a + 1)))]) (rest := [.int (nI (X (sw (L a))))]) S (c_X1_beginXOf l D cI cR d e1 e2 e3 e4 n P X Y L (L (a + 1)) hok (by omega)) (zuV wd_214 wd_211 wd_212 wd_213 wd_14) 1 rfl q_X1_beginXOf ⟨⟨rfl, rfl⟩, Nat.le_of_ble_eq_true rfl, Nat.le_of_ble_eq_true rfl⟩ hG [0, 1, 2, 3, 4] rfl 0 rfl rfl rfl rfl rfl (Nat.le_of_ble_eq_true rfl) hl.1 ⟨Nat.zero_le _, Nat.zero_le _⟩ dX1_isLinkedToNext_52 ?_
        have g4 := (hXY (L (a + 1)) (by omega)).1
        refine zz_icmp_ne (pc := 55) (tgt := 75) S dX1_isLinkedToNext_55 (by decide) (n_eq (by omega) (by omega)) (fun c55 => ?_) (fun c55 => ?_)
        · refine zz_iconst (pc := 75) (v := nI 0) S dX1_isLinkedToNext_75 rfl ?_
          exact zz_bretS (pc := 76) S hr hlocks (by decide) (congrArg nI (zB_f (by first | omega | (exact ⟨by omega, by omega, by omega, by omega⟩) | (intro q; obtain ⟨q1, q2, q3, q4⟩ := q; omega))).symm) dX1_isLinkedToNext_76
        · refine lv_aload_n (pc := 58) S.1 S.2.1 dX1_isLinkedToNext_58 rfl (lv_at hl 2 rfl) ?_
          refine lv_iload_n (pc := 59) S.1 S.2.1 dX1_isLinkedToNext_59 rfl (lv_at hl 1 rfl) ?_
          refine zz_callV (pc := 60) (As := [.int (zI ((L a : Nat) : Int))]) (rest := []) S (c_X1_endYOf l D cI cR d e1 e2 e3 e4 n P X Y L ((L a : Nat) : Int) hok (by omega)) (zuV wd_258 wd_255 wd_256 wd_257 wd_14) 1 rfl q_X1_endYOf ⟨⟨rfl, rfl⟩, Nat.le_of_ble_eq_true rfl, Nat.le_of_ble_eq_true rfl⟩ hG [0, 1, 2, 3, 4] rfl 0 rfl rfl rfl rfl rfl (Nat.le_of_ble_eq_true rfl) hl.1 ⟨Nat.zero_le _, Nat.zero_le _⟩ dX1_isLinkedToNext_60 ?_
          refine zz_cast (v := nI (Y (sw (L a)))) (congrArg nI (oX_n Y (L a))) ?_
          have g5 := (hXY (sw (L a)) (sw_lt (by omega))).2
          refine lv_aload_n (pc := 63) S.1 S.2.1 dX1_isLinkedToNext_63 rfl (lv_at hl 2 rfl) ?_
          refine lv_iload_n (pc := 64) S.1 S.2.1 dX1_isLinkedToNext_64 rfl (lv_at hl 0 rfl) ?_
          refine zz_callV (pc := 65) (As := [.int (nI (L (a + 1)))]) (rest := [.int (nI (Y (sw (L a))))]) S (c_X1_beginYOf l D cI cR d e1 e2 e3 e4 n P X Y L (L (a + 1)) hok (by omega)) (zuV wd_222 wd_219 wd_220 wd_221 wd_14) 1 rfl q_X1_beginYOf ⟨⟨rfl, rfl⟩, Nat.le_of_ble_eq_true rfl, Nat.le_of_ble_eq_true rfl⟩ hG [0, 1, 2, 3, 4] rfl 0 rfl rfl rfl rfl rfl (Nat.le_of_ble_eq_true rfl) hl.1 ⟨Nat.zero_le _, Nat.zero_le _⟩ dX1_isLinkedToNext_65 ?_
          have g6 := (hXY (L (a + 1)) (by omega)).2
          refine zz_icmp_ne (pc := 68) (tgt := 75) S dX1_isLinkedToNext_68 (by decide) (n_eq (by omega) (by omega)) (fun c68 => ?_) (fun c68 => ?_)
          · refine zz_iconst (pc := 75) (v := nI 0) S dX1_isLinkedToNext_75 rfl ?_
            exact zz_bretS (pc := 76) S hr hlocks (by decide) (congrArg nI (zB_f (by first | omega | (exact ⟨by omega, by omega, by omega, by omega⟩) | (intro q; obtain ⟨q1, q2, q3, q4⟩ := q; omega))).symm) dX1_isLinkedToNext_76
          · refine zz_iconst (pc := 71) (v := nI 1) S dX1_isLinkedToNext_71 rfl ?_
            refine lv_goto (pc := 72) (tgt := 76) S.1 S.2.1 dX1_isLinkedToNext_72 (by decide) ?_
            exact zz_bretS (pc := 76) S hr hlocks (by decide) (congrArg nI (zB_t (by first | omega | (exact ⟨by omega, by omega, by omega, by omega⟩) | (intro q; obtain ⟨q1, q2, q3, q4⟩ := q; omega))).symm) dX1_isLinkedToNext_76
    · refine zz_iconst (pc := 18) (v := nI 0) S dX1_isLinkedToNext_18 rfl ?_
      exact zz_bretS (pc := 19) S hr hlocks (by decide) (congrArg nI (zB_f (by first | omega | (exact ⟨by omega, by omega, by omega, by omega⟩) | (intro q; obtain ⟨q1, q2, q3, q4⟩ := q; omega))).symm) dX1_isLinkedToNext_19
abbrev wm_X1_areAlike : List Cond := .code yX1_areAlike cX1_areAlike 5 (some .boolean) :: wU
theorem q_X1_areAlike : yX1_areAlike.cls = RX1 ∧ yX1_areAlike.cls ≠ "java/lang/invoke/MethodHandle" ∧ yX1_areAlike.cls ≠ "java/lang/invoke/VarHandle" ∧ (parseMethodDescriptor yX1_areAlike.desc).map (fun d => d.parameters.length) = some 2 := by decide +kernel
set_option maxHeartbeats 4000000 in
set_option maxRecDepth 100000 in
theorem c_X1_areAlike (l : Launch) (D : va_G) (cI cR : ClassId) (d e1 e2 e3 e4 n : Nat) (P X Y L : Nat → Nat) (a : Nat) (b : Nat) (hok : zOk n P X Y L) (ha : a < n) (hb : b < n) : Met l yX1_areAlike wm_X1_areAlike ({ frames := 3, cells := 0, slots := 0, locals := 64 } : Room) (va_Pc [.ref d, .int (nI a), .int (nI b)] (zW D cI cR [(d, .inr (1, [.int (nI n), .ref e1, .ref e2, .ref e3, .ref e4])), (e1, zA cI 8 P), (e2, zA cI 16 X), (e3, zA cI 16 Y), (e4, zA cI 8 L)])) (vp_Si (fun r => r = nI (zB (alk P X Y a b)))) 0 0 (fun _ => False) := by
  refine Met.ofW (cc := cX1_areAlike) (maxL := 5) (ret := (some .boolean)) (by decide) rfl ?_
  intro p e s m args below meth c s₁ B hml hv
  obtain ⟨rfl, hG⟩ := hv
  have S : CallFix p m c cX1_areAlike 5 s ([.ref d, .int (nI a), .int (nI b)] : List Value).toArray wU RX1 := ⟨B.exec, B.bytes, hml, findClass_of_methodNamed B.named, fun w h => atoms_spec (ws := wm_X1_areAlike) B.pre w (List.mem_cons_of_mem _ h)⟩
  have hr := B.returns
  have hlocks := B.notSynchronized
  have hG : zG D cI cR [(d, .inr (1, [.int (nI n), .ref e1, .ref e2, .ref e3, .ref e4])), (e1, zA cI 8 P), (e2, zA cI 16 X), (e3, zA cI 16 Y), (e4, zA cI 8 L)] s s.heap := hG
  have hl := lv_entry ([.ref d, .int (nI a), .int (nI b)]) (n := 5) (Nat.le_of_ble_eq_true rfl)
  rw [lg_entry_eq]
  generalize (lg_sl ([.ref d, .int (nI a), .int (nI b)]) ++ List.replicate (5 - (lg_sl ([.ref d, .int (nI a), .int (nI b)])).length) Slot.unset).toArray = ls at hl ⊢
  have hl : lv_has ls 5 [(0, .ref d), (1, .int (nI a)), (2, .int (nI b))] := hl
  obtain ⟨hn, hPf, hXY, hLf, hinj⟩ := id hok
  refine lv_aload_n (pc := 0) S.1 S.2.1 dX1_areAlike_0 rfl (lv_at hl 0 rfl) ?_
  refine lv_iload_n (pc := 1) S.1 S.2.1 dX1_areAlike_1 rfl (lv_at hl 1 rfl) ?_
  refine zz_callV (pc := 2) (As := [.int (nI a)]) (rest := []) S (c_X1_penOfStroke l D cI cR d e1 e2 e3 e4 n P X Y L a hok (by omega)) (zuV wd_185 wd_206 wd_183 wd_184 wd_14) 1 rfl q_X1_penOfStroke ⟨⟨rfl, rfl⟩, Nat.le_of_ble_eq_true rfl, Nat.le_of_ble_eq_true rfl⟩ hG [0, 1, 2, 3, 4] rfl 0 rfl rfl rfl rfl rfl (Nat.le_of_ble_eq_true rfl) hl.1 ⟨Nat.zero_le _, Nat.zero_le _⟩ dX1_areAlike_2 ?_
  have g1 := hPf a (by omega)
  refine lv_aload_n (pc := 5) S.1 S.2.1 dX1_areAlike_5 rfl (lv_at hl 0 rfl) ?_
  refine lv_iload_n (pc := 6) S.1 S.2.1 dX1_areAlike_6 rfl (lv_at hl 2 rfl) ?_
  refine zz_callV (pc := 7) (As := [.int (nI b)]) (rest := [.int (nI (P a))]) S (c_X1_penOfStroke l D cI cR d e1 e2 e3 e4 n P X Y L b hok (by omega)) (zuV wd_185 wd_206 wd_183 wd_184 wd_14) 1 rfl q_X1_penOfStroke ⟨⟨rfl, rfl⟩, Nat.le_of_ble_eq_true rfl, Nat.le_of_ble_eq_true rfl⟩ hG [0, 1, 2, 3, 4] rfl 0 rfl rfl rfl rfl rfl (Nat.le_of_ble_eq_true rfl) hl.1 ⟨Nat.zero_le _, Nat.zero_le _⟩ dX1_areAlike_7 ?_
  have g2 := hPf b (by omega)
  refine zz_icmp_eq (pc := 10) (tgt := 15) S dX1_areAlike_10 (by decide) (n_eq (by omega) (by omega)) (fun c10 => ?_) (fun c10 => ?_)
  · refine zz_iconst (pc := 15) (v := nI 2) S dX1_areAlike_15 rfl ?_
    refine lv_iload_n (pc := 16) S.1 S.2.1 dX1_areAlike_16 rfl (lv_at hl 1 rfl) ?_
    refine zz_imul (pc := 17) (v := nI (2 * a)) S dX1_areAlike_17 (n_mul _ _) ?_
    refine lv_istore_n (pc := 18) (lv' := [(3, .int (nI (2 * a))), (0, .ref d), (1, .int (nI a)), (2, .int (nI b))]) S.1 S.2.1 dX1_areAlike_18 rfl hl (by decide) rfl (fun ls hl => ?_)
    refine lv_iload_n (pc := 19) S.1 S.2.1 dX1_areAlike_19 rfl (lv_at hl 0 rfl) ?_
    refine zz_iconst (pc := 20) (v := nI 1) S dX1_areAlike_20 rfl ?_
    refine zz_iadd (pc := 21) (v := nI (2 * a + 1)) S dX1_areAlike_21 (n_add _ _) ?_
    refine lv_istore (pc := 22) (lv' := [(4, .int (nI (2 * a + 1))), (3, .int (nI (2 * a))), (0, .ref d), (1, .int (nI a)), (2, .int (nI b))]) S.1 S.2.1 dX1_areAlike_22 hl (by decide) rfl (fun ls hl => ?_)
    refine lv_aload_n (pc := 24) S.1 S.2.1 dX1_areAlike_24 rfl (lv_at hl 2 rfl) ?_
    refine lv_iload_n (pc := 25) S.1 S.2.1 dX1_areAlike_25 rfl (lv_at hl 1 rfl) ?_
    refine zz_iconst (pc := 26) (v := nI 2) S dX1_areAlike_26 rfl ?_
    refine lv_iload_n (pc := 27) S.1 S.2.1 dX1_areAlike_27 rfl (lv_at hl 4 rfl) ?_
    refine zz_imul (pc := 28) (v := nI (2 * b)) S dX1_areAlike_28 (n_mul _ _) ?_
    refine zz_callV (pc := 29) (As := [.int (nI (2 * a)), .int (nI (2 * b))]) (rest := []) S (c_X1_samePoint l D cI cR d e1 e2 e3 e4 n P X Y L (2 * a) (2 * b) hok (by omega) (by omega)) (zuV wd_210 wd_207 wd_208 wd_209 wd_14) 2 rfl q_X1_samePoint ⟨⟨rfl, rfl⟩, Nat.le_of_ble_eq_true rfl, Nat.le_of_ble_eq_true rfl⟩ hG [0, 1, 2, 3, 4] rfl 0 rfl rfl rfl rfl rfl (Nat.le_of_ble_eq_true rfl) hl.1 ⟨Nat.zero_le _, Nat.zero_le _⟩ dX1_areAlike_29 ?_
    refine zz_ifb_eq (pc := 32) (tgt := 49) S dX1_areAlike_32 (by decide) (fun c32 => ?_) (fun c32 => ?_)
    · refine lv_aload_n (pc := 49) S.1 S.2.1 dX1_areAlike_49 rfl (lv_at hl 2 rfl) ?_
      refine lv_iload_n (pc := 50) S.1 S.2.1 dX1_areAlike_50 rfl (lv_at hl 1 rfl) ?_
      refine zz_iconst (pc := 51) (v := nI 2) S dX1_areAlike_51 rfl ?_
      refine lv_iload_n (pc := 52) S.1 S.2.1 dX1_areAlike_52 rfl (lv_at hl 4 rfl) ?_
      refine zz_imul (pc := 53) (v := nI (2 * b)) S dX1_areAlike_53 (n_mul _ _) ?_
      refine zz_iconst (pc := 54) (v := nI 1) S dX1_areAlike_54 rfl ?_
      refine zz_iadd (pc := 55) (v := nI (2 * b + 1)) S dX1_areAlike_55 (n_add _ _) ?_
      refine zz_callV (pc := 56) (As := [.int (nI (2 * a)), .int (nI (2 * b + 1))]) (rest := []) S (c_X1_samePoint l D cI cR d e1 e2 e3 e4 n P X Y L (2 * a) (2 * b + 1) hok (by omega) (by omega)) (zuV wd_210 wd_207 wd_208 wd_209 wd_14) 2 rfl q_X1_samePoint ⟨⟨rfl, rfl⟩, Nat.le_of_ble_eq_true rfl, Nat.le_of_ble_eq_true rfl⟩ hG [0, 1, 2, 3, 4] rfl 0 rfl rfl rfl rfl rfl (Nat.le_of_ble_eq_true rfl) hl.1 ⟨Nat.zero_le _, Nat.zero_le _⟩ dX1_areAlike_56 ?_
      refine zz_ifb_eq (pc := 59) (tgt := 78) S dX1_areAlike_59 (by decide) (fun c59 => ?_) (fun c59 => ?_)
      · refine zz_iconst (pc := 78) (v := nI 0) S dX1_areAlike_78 rfl ?_
        exact zz_bretS (pc := 79) S hr hlocks (by decide) (congrArg nI (zB_f (by first | omega | (unfold alk; omega) | grind)).symm) dX1_areAlike_79
      · refine lv_aload_n (pc := 62) S.1 S.2.1 dX1_areAlike_62 rfl (lv_at hl 2 rfl) ?_
        refine lv_iload (pc := 63) S.1 S.2.1 dX1_areAlike_63 (lv_at hl 0 rfl) ?_
        refine zz_iconst (pc := 65) (v := nI 2) S dX1_areAlike_65 rfl ?_
        refine lv_iload_n (pc := 66) S.1 S.2.1 dX1_areAlike_66 rfl (lv_at hl 4 rfl) ?_
        refine zz_imul (pc := 67) (v := nI (2 * b)) S dX1_areAlike_67 (n_mul _ _) ?_
        refine zz_callV (pc := 68) (As := [.int (nI (2 * a + 1)), .int (nI (2 * b))]) (rest := []) S (c_X1_samePoint l D cI cR d e1 e2 e3 e4 n P X Y L (2 * a + 1) (2 * b) hok (by omega) (by omega)) (zuV wd_210 wd_207 wd_208 wd_209 wd_14) 2 rfl q_X1_samePoint ⟨⟨rfl, rfl⟩, Nat.le_of_ble_eq_true rfl, Nat.le_of_ble_eq_true rfl⟩ hG [0, 1, 2, 3, 4] rfl 0 rfl rfl rfl rfl rfl (Nat.le_of_ble_eq_true rfl) hl.1 ⟨Nat.zero_le _, Nat.zero_le _⟩ dX1_areAlike_68 ?_
        refine zz_ifb_eq (pc := 71) (tgt := 78) S dX1_areAlike_71 (by decide) (fun c71 => ?_) (fun c71 => ?_)
        · refine zz_iconst (pc := 78) (v := nI 0) S dX1_areAlike_78 rfl ?_
          exact zz_bretS (pc := 79) S hr hlocks (by decide) (congrArg nI (zB_f (by first | omega | (unfold alk; omega) | grind)).symm) dX1_areAlike_79
        · refine zz_iconst (pc := 74) (v := nI 1) S dX1_areAlike_74 rfl ?_
          refine lv_goto (pc := 75) (tgt := 79) S.1 S.2.1 dX1_areAlike_75 (by decide) ?_
          exact zz_bretS (pc := 79) S hr hlocks (by decide) (congrArg nI (zB_t (by first | omega | (unfold alk; omega) | grind)).symm) dX1_areAlike_79
    · refine lv_aload_n (pc := 35) S.1 S.2.1 dX1_areAlike_35 rfl (lv_at hl 2 rfl) ?_
      refine lv_iload (pc := 36) S.1 S.2.1 dX1_areAlike_36 (lv_at hl 0 rfl) ?_
      refine zz_iconst (pc := 38) (v := nI 2) S dX1_areAlike_38 rfl ?_
      refine lv_iload_n (pc := 39) S.1 S.2.1 dX1_areAlike_39 rfl (lv_at hl 4 rfl) ?_
      refine zz_imul (pc := 40) (v := nI (2 * b)) S dX1_areAlike_40 (n_mul _ _) ?_
      refine zz_iconst (pc := 41) (v := nI 1) S dX1_areAlike_41 rfl ?_
      refine zz_iadd (pc := 42) (v := nI (2 * b + 1)) S dX1_areAlike_42 (n_add _ _) ?_
      refine zz_callV (pc := 43) (As := [.int (nI (2 * a + 1)), .int (nI (2 * b + 1))]) (rest := []) S (c_X1_samePoint l D cI cR d e1 e2 e3 e4 n P X Y L (2 * a + 1) (2 * b + 1) hok (by omega) (by omega)) (zuV wd_210 wd_207 wd_208 wd_209 wd_14) 2 rfl q_X1_samePoint ⟨⟨rfl, rfl⟩, Nat.le_of_ble_eq_true rfl, Nat.le_of_ble_eq_true rfl⟩ hG [0, 1, 2, 3, 4] rfl 0 rfl rfl rfl rfl rfl (Nat.le_of_ble_eq_true rfl) hl.1 ⟨Nat.zero_le _, Nat.zero_le _⟩ dX1_areAlike_43 ?_
      refine zz_ifb_ne (pc := 46) (tgt := 74) S dX1_areAlike_46 (by decide) (fun c46 => ?_) (fun c46 => ?_)
      · refine zz_iconst (pc := 74) (v := nI 1) S dX1_areAlike_74 rfl ?_
        refine lv_goto (pc := 75) (tgt := 79) S.1 S.2.1 dX1_areAlike_75 (by decide) ?_
        exact zz_bretS (pc := 79) S hr hlocks (by decide) (congrArg nI (zB_t (by first | omega | (unfold alk; omega) | grind)).symm) dX1_areAlike_79
      · refine lv_aload_n (pc := 49) S.1 S.2.1 dX1_areAlike_49 rfl (lv_at hl 2 rfl) ?_
        refine lv_iload_n (pc := 50) S.1 S.2.1 dX1_areAlike_50 rfl (lv_at hl 1 rfl) ?_
        refine zz_iconst (pc := 51) (v := nI 2) S dX1_areAlike_51 rfl ?_
        refine lv_iload_n (pc := 52) S.1 S.2.1 dX1_areAlike_52 rfl (lv_at hl 4 rfl) ?_
        refine zz_imul (pc := 53) (v := nI (2 * b)) S dX1_areAlike_53 (n_mul _ _) ?_
        refine zz_iconst (pc := 54) (v := nI 1) S dX1_areAlike_54 rfl ?_
        refine zz_iadd (pc := 55) (v := nI (2 * b + 1)) S dX1_areAlike_55 (n_add _ _) ?_
        refine zz_callV (pc := 56) (As := [.int (nI (2 * a)), .int (nI (2 * b + 1))]) (rest := []) S (c_X1_samePoint l D cI cR d e1 e2 e3 e4 n P X Y L (2 * a) (2 * b + 1) hok (by omega) (by omega)) (zuV wd_210 wd_207 wd_208 wd_209 wd_14) 2 rfl q_X1_samePoint ⟨⟨rfl, rfl⟩, Nat.le_of_ble_eq_true rfl, Nat.le_of_ble_eq_true rfl⟩ hG [0, 1, 2, 3, 4] rfl 0 rfl rfl rfl rfl rfl (Nat.le_of_ble_eq_true rfl) hl.1 ⟨Nat.zero_le _, Nat.zero_le _⟩ dX1_areAlike_56 ?_
        refine zz_ifb_eq (pc := 59) (tgt := 78) S dX1_areAlike_59 (by decide) (fun c59 => ?_) (fun c59 => ?_)
        · refine zz_iconst (pc := 78) (v := nI 0) S dX1_areAlike_78 rfl ?_
          exact zz_bretS (pc := 79) S hr hlocks (by decide) (congrArg nI (zB_f (by first | omega | (unfold alk; omega) | grind)).symm) dX1_areAlike_79
        · refine lv_aload_n (pc := 62) S.1 S.2.1 dX1_areAlike_62 rfl (lv_at hl 2 rfl) ?_
          refine lv_iload (pc := 63) S.1 S.2.1 dX1_areAlike_63 (lv_at hl 0 rfl) ?_
          refine zz_iconst (pc := 65) (v := nI 2) S dX1_areAlike_65 rfl ?_
          refine lv_iload_n (pc := 66) S.1 S.2.1 dX1_areAlike_66 rfl (lv_at hl 4 rfl) ?_
          refine zz_imul (pc := 67) (v := nI (2 * b)) S dX1_areAlike_67 (n_mul _ _) ?_
          refine zz_callV (pc := 68) (As := [.int (nI (2 * a + 1)), .int (nI (2 * b))]) (rest := []) S (c_X1_samePoint l D cI cR d e1 e2 e3 e4 n P X Y L (2 * a + 1) (2 * b) hok (by omega) (by omega)) (zuV wd_210 wd_207 wd_208 wd_209 wd_14) 2 rfl q_X1_samePoint ⟨⟨rfl, rfl⟩, Nat.le_of_ble_eq_true rfl, Nat.le_of_ble_eq_true rfl⟩ hG [0, 1, 2, 3, 4] rfl 0 rfl rfl rfl rfl rfl (Nat.le_of_ble_eq_true rfl) hl.1 ⟨Nat.zero_le _, Nat.zero_le _⟩ dX1_areAlike_68 ?_
          refine zz_ifb_eq (pc := 71) (tgt := 78) S dX1_areAlike_71 (by decide) (fun c71 => ?_) (fun c71 => ?_)
          · refine zz_iconst (pc := 78) (v := nI 0) S dX1_areAlike_78 rfl ?_
            exact zz_bretS (pc := 79) S hr hlocks (by decide) (congrArg nI (zB_f (by first | omega | (unfold alk; omega) | grind)).symm) dX1_areAlike_79
          · refine zz_iconst (pc := 74) (v := nI 1) S dX1_areAlike_74 rfl ?_
            refine lv_goto (pc := 75) (tgt := 79) S.1 S.2.1 dX1_areAlike_75 (by decide) ?_
            exact zz_bretS (pc := 79) S hr hlocks (by decide) (congrArg nI (zB_t (by first | omega | (unfold alk; omega) | grind)).symm) dX1_areAlike_79
  · refine zz_iconst (pc := 13) (v := nI 0) S dX1_areAlike_13 rfl ?_
    exact zz_bretS (pc := 14) S hr hlocks (by decide) (congrArg nI (zB_f (by first | omega | (unfold alk; omega) | grind)).symm) dX1_areAlike_14
abbrev wm_X1_liesOn : List Cond := .code yX1_liesOn cX1_liesOn 9 (some .boolean) :: wU
theorem q_X1_liesOn : yX1_liesOn.cls = RX1 ∧ yX1_liesOn.cls ≠ "java/lang/invoke/MethodHandle" ∧ yX1_liesOn.cls ≠ "java/lang/invoke/VarHandle" ∧ (parseMethodDescriptor yX1_liesOn.desc).map (fun d => d.parameters.length) = some 2 := by decide +kernel
set_option maxHeartbeats 4000000 in
set_option maxRecDepth 100000 in
theorem c_X1_liesOn (l : Launch) (D : va_G) (cI cR : ClassId) (d e1 e2 e3 e4 n : Nat) (P X Y L : Nat → Nat) (a : Nat) (b : Nat) (hok : zOk n P X Y L) (ha : a < 2 * n) (hb : b < n) : Met l yX1_liesOn wm_X1_liesOn ({ frames := 2, cells := 0, slots := 0, locals := 42 } : Room) (va_Pc [.ref d, .int (nI a), .int (nI b)] (zW D cI cR [(d, .inr (1, [.int (nI n), .ref e1, .ref e2, .ref e3, .ref e4])), (e1, zA cI 8 P), (e2, zA cI 16 X), (e3, zA cI 16 Y), (e4, zA cI 8 L)])) (vp_Si (fun r => r = nI (zB (lon X Y a b)))) 0 0 (fun _ => False) := by
  refine Met.ofW (cc := cX1_liesOn) (maxL := 9) (ret := (some .boolean)) (by decide) rfl ?_
  intro p e s m args below meth c s₁ B hml hv
  obtain ⟨rfl, hG⟩ := hv
  have S : CallFix p m c cX1_liesOn 9 s ([.ref d, .int (nI a), .int (nI b)] : List Value).toArray wU RX1 := ⟨B.exec, B.bytes, hml, findClass_of_methodNamed B.named, fun w h => atoms_spec (ws := wm_X1_liesOn) B.pre w (List.mem_cons_of_mem _ h)⟩
  have hr := B.returns
  have hlocks := B.notSynchronized
  have hG : zG D cI cR [(d, .inr (1, [.int (nI n), .ref e1, .ref e2, .ref e3, .ref e4])), (e1, zA cI 8 P), (e2, zA cI 16 X), (e3, zA cI 16 Y), (e4, zA cI 8 L)] s s.heap := hG
  have hl := lv_entry ([.ref d, .int (nI a), .int (nI b)]) (n := 9) (Nat.le_of_ble_eq_true rfl)
  rw [lg_entry_eq]
  generalize (lg_sl ([.ref d, .int (nI a), .int (nI b)]) ++ List.replicate (9 - (lg_sl ([.ref d, .int (nI a), .int (nI b)])).length) Slot.unset).toArray = ls at hl ⊢
  have hl : lv_has ls 9 [(0, .ref d), (1, .int (nI a)), (2, .int (nI b))] := hl
  obtain ⟨hn, hPf, hXY, hLf, hinj⟩ := id hok
  refine lv_aload_n (pc := 0) S.1 S.2.1 dX1_liesOn_0 rfl (lv_at hl 0 rfl) ?_
  refine lv_iload_n (pc := 1) S.1 S.2.1 dX1_liesOn_1 rfl (lv_at hl 1 rfl) ?_
  refine zz_callV (pc := 2) (As := [.int (nI a)]) (rest := []) S (c_X1_beginXOf l D cI cR d e1 e2 e3 e4 n P X Y L a hok (by omega)) (zuV wd_214 wd_211 wd_212 wd_213 wd_14) 1 rfl q_X1_beginXOf ⟨⟨rfl, rfl⟩, Nat.le_of_ble_eq_true rfl, Nat.le_of_ble_eq_true rfl⟩ hG [0, 1, 2, 3, 4] rfl 0 rfl rfl rfl rfl rfl (Nat.le_of_ble_eq_true rfl) hl.1 ⟨Nat.zero_le _, Nat.zero_le _⟩ dX1_liesOn_2 ?_
  have g1 := (hXY a (by omega)).1
  refine lv_istore_n (pc := 5) (lv' := [(3, .int (nI (X a))), (0, .ref d), (1, .int (nI a)), (2, .int (nI b))]) S.1 S.2.1 dX1_liesOn_5 rfl hl (by decide) rfl (fun ls hl => ?_)
  refine lv_aload_n (pc := 6) S.1 S.2.1 dX1_liesOn_6 rfl (lv_at hl 1 rfl) ?_
  refine lv_iload_n (pc := 7) S.1 S.2.1 dX1_liesOn_7 rfl (lv_at hl 2 rfl) ?_
  refine zz_callV (pc := 8) (As := [.int (nI a)]) (rest := []) S (c_X1_beginYOf l D cI cR d e1 e2 e3 e4 n P X Y L a hok (by omega)) (zuV wd_222 wd_219 wd_220 wd_221 wd_14) 1 rfl q_X1_beginYOf ⟨⟨rfl, rfl⟩, Nat.le_of_ble_eq_true rfl, Nat.le_of_ble_eq_true rfl⟩ hG [0, 1, 2, 3, 4] rfl 0 rfl rfl rfl rfl rfl (Nat.le_of_ble_eq_true rfl) hl.1 ⟨Nat.zero_le _, Nat.zero_le _⟩ dX1_liesOn_8 ?_
  have g2 := (hXY a (by omega)).2
  refine lv_istore (pc := 11) (lv' := [(4, .int (nI (Y a))), (3, .int (nI (X a))), (0, .ref d), (1, .int (nI a)), (2, .int (nI b))]) S.1 S.2.1 dX1_liesOn_11 hl (by decide) rfl (fun ls hl => ?_)
  refine lv_aload_n (pc := 13) S.1 S.2.1 dX1_liesOn_13 rfl (lv_at hl 2 rfl) ?_
  refine zz_iconst (pc := 14) (v := nI 2) S dX1_liesOn_14 rfl ?_
  refine lv_iload_n (pc := 15) S.1 S.2.1 dX1_liesOn_15 rfl (lv_at hl 4 rfl) ?_
  refine zz_imul (pc := 16) (v := nI (2 * b)) S dX1_liesOn_16 (n_mul _ _) ?_
  refine zz_callV (pc := 17) (As := [.int (nI (2 * b))]) (rest := []) S (c_X1_beginXOf l D cI cR d e1 e2 e3 e4 n P X Y L (2 * b) hok (by omega)) (zuV wd_214 wd_211 wd_212 wd_213 wd_14) 1 rfl q_X1_beginXOf ⟨⟨rfl, rfl⟩, Nat.le_of_ble_eq_true rfl, Nat.le_of_ble_eq_true rfl⟩ hG [0, 1, 2, 3, 4] rfl 0 rfl rfl rfl rfl rfl (Nat.le_of_ble_eq_true rfl) hl.1 ⟨Nat.zero_le _, Nat.zero_le _⟩ dX1_liesOn_17 ?_
  have g3 := (hXY (2 * b) (by omega)).1
  refine lv_istore (pc := 20) (lv' := [(5, .int (nI (X (2 * b)))), (4, .int (nI (Y a))), (3, .int (nI (X a))), (0, .ref d), (1, .int (nI a)), (2, .int (nI b))]) S.1 S.2.1 dX1_liesOn_20 hl (by decide) rfl (fun ls hl => ?_)
  refine lv_aload_n (pc := 22) S.1 S.2.1 dX1_liesOn_22 rfl (lv_at hl 3 rfl) ?_
  refine zz_iconst (pc := 23) (v := nI 2) S dX1_liesOn_23 rfl ?_
  refine lv_iload_n (pc := 24) S.1 S.2.1 dX1_liesOn_24 rfl (lv_at hl 5 rfl) ?_
  refine zz_imul (pc := 25) (v := nI (2 * b)) S dX1_liesOn_25 (n_mul _ _) ?_
  refine zz_callV (pc := 26) (As := [.int (nI (2 * b))]) (rest := []) S (c_X1_beginYOf l D cI cR d e1 e2 e3 e4 n P X Y L (2 * b) hok (by omega)) (zuV wd_222 wd_219 wd_220 wd_221 wd_14) 1 rfl q_X1_beginYOf ⟨⟨rfl, rfl⟩, Nat.le_of_ble_eq_true rfl, Nat.le_of_ble_eq_true rfl⟩ hG [0, 1, 2, 3, 4] rfl 0 rfl rfl rfl rfl rfl (Nat.le_of_ble_eq_true rfl) hl.1 ⟨Nat.zero_le _, Nat.zero_le _⟩ dX1_liesOn_26 ?_
  have g4 := (hXY (2 * b) (by omega)).2
  refine lv_istore (pc := 29) (lv' := [(6, .int (nI (Y (2 * b)))), (5, .int (nI (X (2 * b)))), (4, .int (nI (Y a))), (3, .int (nI (X a))), (0, .ref d), (1, .int (nI a)), (2, .int (nI b))]) S.1 S.2.1 dX1_liesOn_29 hl (by decide) rfl (fun ls hl => ?_)
  refine lv_aload_n (pc := 31) S.1 S.2.1 dX1_liesOn_31 rfl (lv_at hl 4 rfl) ?_
  refine zz_iconst (pc := 32) (v := nI 2) S dX1_liesOn_32 rfl ?_
  refine lv_iload_n (pc := 33) S.1 S.2.1 dX1_liesOn_33 rfl (lv_at hl 6 rfl) ?_
  refine zz_imul (pc := 34) (v := nI (2 * b)) S dX1_liesOn_34 (n_mul _ _) ?_
  refine zz_callV (pc := 35) (As := [.int (zI ((2 * b : Nat) : Int))]) (rest := []) S (c_X1_endXOf l D cI cR d e1 e2 e3 e4 n P X Y L ((2 * b : Nat) : Int) hok (by omega)) (zuV wd_254 wd_251 wd_252 wd_253 wd_14) 1 rfl q_X1_endXOf ⟨⟨rfl, rfl⟩, Nat.le_of_ble_eq_true rfl, Nat.le_of_ble_eq_true rfl⟩ hG [0, 1, 2, 3, 4] rfl 0 rfl rfl rfl rfl rfl (Nat.le_of_ble_eq_true rfl) hl.1 ⟨Nat.zero_le _, Nat.zero_le _⟩ dX1_liesOn_35 ?_
  refine zz_cast (v := nI (X (2 * b + 1))) (congrArg nI ((oX_n X (2 * b)).trans (congrArg X (sw_e b)))) ?_
  have g5 := (hXY (2 * b + 1) (by omega)).1
  refine lv_istore (pc := 38) (lv' := [(7, .int (nI (X (2 * b + 1)))), (6, .int (nI (Y (2 * b)))), (5, .int (nI (X (2 * b)))), (4, .int (nI (Y a))), (3, .int (nI (X a))), (0, .ref d), (1, .int (nI a)), (2, .int (nI b))]) S.1 S.2.1 dX1_liesOn_38 hl (by decide) rfl (fun ls hl => ?_)
  refine lv_aload_n (pc := 40) S.1 S.2.1 dX1_liesOn_40 rfl (lv_at hl 5 rfl) ?_
  refine zz_iconst (pc := 41) (v := nI 2) S dX1_liesOn_41 rfl ?_
  refine lv_iload_n (pc := 42) S.1 S.2.1 dX1_liesOn_42 rfl (lv_at hl 7 rfl) ?_
  refine zz_imul (pc := 43) (v := nI (2 * b)) S dX1_liesOn_43 (n_mul _ _) ?_
  refine zz_callV (pc := 44) (As := [.int (zI ((2 * b : Nat) : Int))]) (rest := []) S (c_X1_endYOf l D cI cR d e1 e2 e3 e4 n P X Y L ((2 * b : Nat) : Int) hok (by omega)) (zuV wd_258 wd_255 wd_256 wd_257 wd_14) 1 rfl q_X1_endYOf ⟨⟨rfl, rfl⟩, Nat.le_of_ble_eq_true rfl, Nat.le_of_ble_eq_true rfl⟩ hG [0, 1, 2, 3, 4] rfl 0 rfl rfl rfl rfl rfl (Nat.le_of_ble_eq_true rfl) hl.1 ⟨Nat.zero_le _, Nat.zero_le _⟩ dX1_liesOn_44 ?_
  refine zz_cast (v := nI (Y (2 * b + 1))) (congrArg nI ((oX_n Y (2 * b)).trans (congrArg Y (sw_e b)))) ?_
  have g6 := (hXY (2 * b + 1) (by omega)).2
  refine lv_istore (pc := 47) (lv' := [(8, .int (nI (Y (2 * b + 1)))), (7, .int (nI (X (2 * b + 1)))), (6, .int (nI (Y (2 * b)))), (5, .int (nI (X (2 * b)))), (4, .int (nI (Y a))), (3, .int (nI (X a))), (0, .ref d), (1, .int (nI a)), (2, .int (nI b))]) S.1 S.2.1 dX1_liesOn_47 hl (by decide) rfl (fun ls hl => ?_)
  have m1 := mul_bd (a := ((X (2 * b + 1) : Nat) : Int) - ((X (2 * b) : Nat) : Int)) (b := ((Y a : Nat) : Int) - ((Y (2 * b) : Nat) : Int)) 99 99 (by omega) (by omega) (by omega)
  have m2 := mul_bd (a := ((Y (2 * b + 1) : Nat) : Int) - ((Y (2 * b) : Nat) : Int)) (b := ((X a : Nat) : Int) - ((X (2 * b) : Nat) : Int)) 99 99 (by omega) (by omega) (by omega)
  refine lv_iload (pc := 49) S.1 S.2.1 dX1_liesOn_49 (lv_at hl 1 rfl) ?_
  refine lv_iload (pc := 51) S.1 S.2.1 dX1_liesOn_51 (lv_at hl 3 rfl) ?_
  refine zz_isub (pc := 53) (v := zI (((X (2 * b + 1) : Nat) : Int) - ((X (2 * b) : Nat) : Int))) S dX1_liesOn_53 (zI_sub ((X (2 * b + 1) : Nat) : Int) ((X (2 * b) : Nat) : Int)) ?_
  refine lv_iload (pc := 54) S.1 S.2.1 dX1_liesOn_54 (lv_at hl 4 rfl) ?_
  refine lv_iload (pc := 56) S.1 S.2.1 dX1_liesOn_56 (lv_at hl 2 rfl) ?_
  refine zz_isub (pc := 58) (v := zI (((Y a : Nat) : Int) - ((Y (2 * b) : Nat) : Int))) S dX1_liesOn_58 (zI_sub ((Y a : Nat) : Int) ((Y (2 * b) : Nat) : Int)) ?_
  refine zz_imul (pc := 59) (v := zI ((((X (2 * b + 1) : Nat) : Int) - ((X (2 * b) : Nat) : Int)) * (((Y a : Nat) : Int) - ((Y (2 * b) : Nat) : Int)))) S dX1_liesOn_59 (zI_mul (((X (2 * b + 1) : Nat) : Int) - ((X (2 * b) : Nat) : Int)) (((Y a : Nat) : Int) - ((Y (2 * b) : Nat) : Int))) ?_
  refine lv_iload (pc := 60) S.1 S.2.1 dX1_liesOn_60 (lv_at hl 0 rfl) ?_
  refine lv_iload (pc := 62) S.1 S.2.1 dX1_liesOn_62 (lv_at hl 2 rfl) ?_
  refine zz_isub (pc := 64) (v := zI (((Y (2 * b + 1) : Nat) : Int) - ((Y (2 * b) : Nat) : Int))) S dX1_liesOn_64 (zI_sub ((Y (2 * b + 1) : Nat) : Int) ((Y (2 * b) : Nat) : Int)) ?_
  refine lv_iload_n (pc := 65) S.1 S.2.1 dX1_liesOn_65 rfl (lv_at hl 5 rfl) ?_
  refine lv_iload (pc := 66) S.1 S.2.1 dX1_liesOn_66 (lv_at hl 3 rfl) ?_
  refine zz_isub (pc := 68) (v := zI (((X a : Nat) : Int) - ((X (2 * b) : Nat) : Int))) S dX1_liesOn_68 (zI_sub ((X a : Nat) : Int) ((X (2 * b) : Nat) : Int)) ?_
  refine zz_imul (pc := 69) (v := zI ((((Y (2 * b + 1) : Nat) : Int) - ((Y (2 * b) : Nat) : Int)) * (((X a : Nat) : Int) - ((X (2 * b) : Nat) : Int)))) S dX1_liesOn_69 (zI_mul (((Y (2 * b + 1) : Nat) : Int) - ((Y (2 * b) : Nat) : Int)) (((X a : Nat) : Int) - ((X (2 * b) : Nat) : Int))) ?_
  refine zz_icmp_ne (pc := 70) (tgt := 120) S dX1_liesOn_70 (by decide) (zI_eq (a := (((X (2 * b + 1) : Nat) : Int) - ((X (2 * b) : Nat) : Int)) * (((Y a : Nat) : Int) - ((Y (2 * b) : Nat) : Int))) (b := (((Y (2 * b + 1) : Nat) : Int) - ((Y (2 * b) : Nat) : Int)) * (((X a : Nat) : Int) - ((X (2 * b) : Nat) : Int))) (by unfold zR; omega) (by unfold zR; omega)) (fun c70 => ?_) (fun c70 => ?_)
  · refine zz_iconst (pc := 120) (v := nI 0) S dX1_liesOn_120 rfl ?_
    exact zz_bretS (pc := 121) S hr hlocks (by decide) (congrArg nI (zB_f (by first | exact ⟨c70, by omega, by omega⟩ | (intro q; obtain ⟨q1, q2, q3⟩ := q; first | exact c70 q1 | omega))).symm) dX1_liesOn_121
  · refine lv_iload_n (pc := 73) S.1 S.2.1 dX1_liesOn_73 rfl (lv_at hl 5 rfl) ?_
    refine lv_iload (pc := 74) S.1 S.2.1 dX1_liesOn_74 (lv_at hl 3 rfl) ?_
    refine lv_iload (pc := 76) S.1 S.2.1 dX1_liesOn_76 (lv_at hl 1 rfl) ?_
    refine zz_min (pc := 78) (v := nI (min (X (2 * b)) (X (2 * b + 1)))) S wd_247 wd_105 wd_106 wd_107 ⟨Nat.le_of_ble_eq_true rfl, Nat.le_of_ble_eq_true rfl⟩ ⟨Nat.zero_le _, Nat.zero_le _⟩ hl.1 dX1_liesOn_78 (n_min (by omega) (by omega)) ?_
    refine lv_iload (pc := 81) S.1 S.2.1 dX1_liesOn_81 (lv_at hl 3 rfl) ?_
    refine lv_iload (pc := 83) S.1 S.2.1 dX1_liesOn_83 (lv_at hl 1 rfl) ?_
    refine zz_max (pc := 85) (v := nI (max (X (2 * b)) (X (2 * b + 1)))) S wd_248 wd_249 wd_106 wd_250 ⟨Nat.le_of_ble_eq_true rfl, Nat.le_of_ble_eq_true rfl⟩ ⟨Nat.zero_le _, Nat.zero_le _⟩ hl.1 dX1_liesOn_85 (n_max (by omega) (by omega)) ?_
    refine zz_callSN (pc := 88) (As := [.int (zI ((X a : Nat) : Int)), .int (zI ((min (X (2 * b)) (X (2 * b + 1)) : Nat) : Int)), .int (zI ((max (X (2 * b)) (X (2 * b + 1)) : Nat) : Int))]) (rest := []) S (c_X5_isWithin l D cI cR ((X a : Nat) : Int) ((min (X (2 * b)) (X (2 * b + 1)) : Nat) : Int) ((max (X (2 * b)) (X (2 * b + 1)) : Nat) : Int) (by unfold zR; omega) (by unfold zR; omega) (by unfold zR; omega)) (zu0 wd_85) 3 rfl q_X5_isWithin.2 ⟨⟨rfl, rfl⟩, Nat.le_of_ble_eq_true rfl, Nat.le_of_ble_eq_true rfl⟩ (hG.2.2.2.1) wd_2 wd_84 rfl rfl (Nat.le_of_ble_eq_true rfl) hl.1 ⟨Nat.zero_le _, Nat.zero_le _⟩ dX1_liesOn_88 ?_
    refine zz_ifb_eq (pc := 91) (tgt := 120) S dX1_liesOn_91 (by decide) (fun c91 => ?_) (fun c91 => ?_)
    · refine zz_iconst (pc := 120) (v := nI 0) S dX1_liesOn_120 rfl ?_
      exact zz_bretS (pc := 121) S hr hlocks (by decide) (congrArg nI (zB_f (by first | exact ⟨c70, by omega, by omega⟩ | (intro q; obtain ⟨q1, q2, q3⟩ := q; first | exact c70 q1 | omega))).symm) dX1_liesOn_121
    · refine lv_iload (pc := 94) S.1 S.2.1 dX1_liesOn_94 (lv_at hl 4 rfl) ?_
      refine lv_iload (pc := 96) S.1 S.2.1 dX1_liesOn_96 (lv_at hl 2 rfl) ?_
      refine lv_iload (pc := 98) S.1 S.2.1 dX1_liesOn_98 (lv_at hl 0 rfl) ?_
      refine zz_min (pc := 100) (v := nI (min (Y (2 * b)) (Y (2 * b + 1)))) S wd_247 wd_105 wd_106 wd_107 ⟨Nat.le_of_ble_eq_true rfl, Nat.le_of_ble_eq_true rfl⟩ ⟨Nat.zero_le _, Nat.zero_le _⟩ hl.1 dX1_liesOn_100 (n_min (by omega) (by omega)) ?_
      refine lv_iload (pc := 103) S.1 S.2.1 dX1_liesOn_103 (lv_at hl 2 rfl) ?_
      refine lv_iload (pc := 105) S.1 S.2.1 dX1_liesOn_105 (lv_at hl 0 rfl) ?_
      refine zz_max (pc := 107) (v := nI (max (Y (2 * b)) (Y (2 * b + 1)))) S wd_248 wd_249 wd_106 wd_250 ⟨Nat.le_of_ble_eq_true rfl, Nat.le_of_ble_eq_true rfl⟩ ⟨Nat.zero_le _, Nat.zero_le _⟩ hl.1 dX1_liesOn_107 (n_max (by omega) (by omega)) ?_
      refine zz_callSN (pc := 110) (As := [.int (zI ((Y a : Nat) : Int)), .int (zI ((min (Y (2 * b)) (Y (2 * b + 1)) : Nat) : Int)), .int (zI ((max (Y (2 * b)) (Y (2 * b + 1)) : Nat) : Int))]) (rest := []) S (c_X5_isWithin l D cI cR ((Y a : Nat) : Int) ((min (Y (2 * b)) (Y (2 * b + 1)) : Nat) : Int) ((max (Y (2 * b)) (Y (2 * b + 1)) : Nat) : Int) (by unfold zR; omega) (by unfold zR; omega) (by unfold zR; omega)) (zu0 wd_85) 3 rfl q_X5_isWithin.2 ⟨⟨rfl, rfl⟩, Nat.le_of_ble_eq_true rfl, Nat.le_of_ble_eq_true rfl⟩ (hG.2.2.2.1) wd_2 wd_84 rfl rfl (Nat.le_of_ble_eq_true rfl) hl.1 ⟨Nat.zero_le _, Nat.zero_le _⟩ dX1_liesOn_110 ?_
      refine zz_ifb_eq (pc := 113) (tgt := 120) S dX1_liesOn_113 (by decide) (fun c113 => ?_) (fun c113 => ?_)
      · refine zz_iconst (pc := 120) (v := nI 0) S dX1_liesOn_120 rfl ?_
        exact zz_bretS (pc := 121) S hr hlocks (by decide) (congrArg nI (zB_f (by first | exact ⟨c70, by omega, by omega⟩ | (intro q; obtain ⟨q1, q2, q3⟩ := q; first | exact c70 q1 | omega))).symm) dX1_liesOn_121
      · refine zz_iconst (pc := 116) (v := nI 1) S dX1_liesOn_116 rfl ?_
        refine lv_goto (pc := 117) (tgt := 121) S.1 S.2.1 dX1_liesOn_117 (by decide) ?_
        exact zz_bretS (pc := 121) S hr hlocks (by decide) (congrArg nI (zB_t (by first | exact ⟨c70, by omega, by omega⟩ | (intro q; obtain ⟨q1, q2, q3⟩ := q; first | exact c70 q1 | omega))).symm) dX1_liesOn_121
abbrev wm_X1_covers : List Cond := .code yX1_covers cX1_covers 3 (some .boolean) :: wU
theorem q_X1_covers : yX1_covers.cls = RX1 ∧ yX1_covers.cls ≠ "java/lang/invoke/MethodHandle" ∧ yX1_covers.cls ≠ "java/lang/invoke/VarHandle" ∧ (parseMethodDescriptor yX1_covers.desc).map (fun d => d.parameters.length) = some 2 := by decide +kernel
set_option maxHeartbeats 4000000 in
set_option maxRecDepth 100000 in
theorem c_X1_covers (l : Launch) (D : va_G) (cI cR : ClassId) (d e1 e2 e3 e4 n : Nat) (P X Y L : Nat → Nat) (a : Nat) (b : Nat) (hok : zOk n P X Y L) (ha : a < n) (hb : b < n) : Met l yX1_covers wm_X1_covers ({ frames := 4, cells := 0, slots := 0, locals := 88 } : Room) (va_Pc [.ref d, .int (nI a), .int (nI b)] (zW D cI cR [(d, .inr (1, [.int (nI n), .ref e1, .ref e2, .ref e3, .ref e4])), (e1, zA cI 8 P), (e2, zA cI 16 X), (e3, zA cI 16 Y), (e4, zA cI 8 L)])) (vp_Si (fun r => r = nI (zB (cov P X Y a b)))) 0 0 (fun _ => False) := by
  refine Met.ofW (cc := cX1_covers) (maxL := 3) (ret := (some .boolean)) (by decide) rfl ?_
  intro p e s m args below meth c s₁ B hml hv
  obtain ⟨rfl, hG⟩ := hv
  have S : CallFix p m c cX1_covers 3 s ([.ref d, .int (nI a), .int (nI b)] : List Value).toArray wU RX1 := ⟨B.exec, B.bytes, hml, findClass_of_methodNamed B.named, fun w h => atoms_spec (ws := wm_X1_covers) B.pre w (List.mem_cons_of_mem _ h)⟩
  have hr := B.returns
  have hlocks := B.notSynchronized
  have hG : zG D cI cR [(d, .inr (1, [.int (nI n), .ref e1, .ref e2, .ref e3, .ref e4])), (e1, zA cI 8 P), (e2, zA cI 16 X), (e3, zA cI 16 Y), (e4, zA cI 8 L)] s s.heap := hG
  have hl := lv_entry ([.ref d, .int (nI a), .int (nI b)]) (n := 3) (Nat.le_of_ble_eq_true rfl)
  rw [lg_entry_eq]
  generalize (lg_sl ([.ref d, .int (nI a), .int (nI b)]) ++ List.replicate (3 - (lg_sl ([.ref d, .int (nI a), .int (nI b)])).length) Slot.unset).toArray = ls at hl ⊢
  have hl : lv_has ls 3 [(0, .ref d), (1, .int (nI a)), (2, .int (nI b))] := hl
  obtain ⟨hn, hPf, hXY, hLf, hinj⟩ := id hok
  refine lv_aload_n (pc := 0) S.1 S.2.1 dX1_covers_0 rfl (lv_at hl 0 rfl) ?_
  refine lv_iload_n (pc := 1) S.1 S.2.1 dX1_covers_1 rfl (lv_at hl 1 rfl) ?_
  refine zz_callV (pc := 2) (As := [.int (nI a)]) (rest := []) S (c_X1_penOfStroke l D cI cR d e1 e2 e3 e4 n P X Y L a hok (by omega)) (zuV wd_185 wd_206 wd_183 wd_184 wd_14) 1 rfl q_X1_penOfStroke ⟨⟨rfl, rfl⟩, Nat.le_of_ble_eq_true rfl, Nat.le_of_ble_eq_true rfl⟩ hG [0, 1, 2, 3, 4] rfl 0 rfl rfl rfl rfl rfl (Nat.le_of_ble_eq_true rfl) hl.1 ⟨Nat.zero_le _, Nat.zero_le _⟩ dX1_covers_2 ?_
  have g1 := hPf a (by omega)
  refine lv_aload_n (pc := 5) S.1 S.2.1 dX1_covers_5 rfl (lv_at hl 0 rfl) ?_
  refine lv_iload_n (pc := 6) S.1 S.2.1 dX1_covers_6 rfl (lv_at hl 2 rfl) ?_
  refine zz_callV (pc := 7) (As := [.int (nI b)]) (rest := [.int (nI (P a))]) S (c_X1_penOfStroke l D cI cR d e1 e2 e3 e4 n P X Y L b hok (by omega)) (zuV wd_185 wd_206 wd_183 wd_184 wd_14) 1 rfl q_X1_penOfStroke ⟨⟨rfl, rfl⟩, Nat.le_of_ble_eq_true rfl, Nat.le_of_ble_eq_true rfl⟩ hG [0, 1, 2, 3, 4] rfl 0 rfl rfl rfl rfl rfl (Nat.le_of_ble_eq_true rfl) hl.1 ⟨Nat.zero_le _, Nat.zero_le _⟩ dX1_covers_7 ?_
  have g2 := hPf b (by omega)
  refine zz_icmp_ne (pc := 10) (tgt := 50) S dX1_covers_10 (by decide) (n_eq (by omega) (by omega)) (fun c10 => ?_) (fun c10 => ?_)
  · refine zz_iconst (pc := 50) (v := nI 0) S dX1_covers_50 rfl ?_
    exact zz_bretS (pc := 51) S hr hlocks (by decide) (congrArg nI (zB_f (by first | omega | grind)).symm) dX1_covers_51
  · refine lv_aload_n (pc := 13) S.1 S.2.1 dX1_covers_13 rfl (lv_at hl 0 rfl) ?_
    refine lv_iload_n (pc := 14) S.1 S.2.1 dX1_covers_14 rfl (lv_at hl 1 rfl) ?_
    refine lv_iload_n (pc := 15) S.1 S.2.1 dX1_covers_15 rfl (lv_at hl 2 rfl) ?_
    refine zz_callV (pc := 16) (As := [.int (nI a), .int (nI b)]) (rest := []) S (c_X1_areAlike l D cI cR d e1 e2 e3 e4 n P X Y L a b hok (by omega) (by omega)) (zuV wd_205 wd_202 wd_203 wd_204 wd_14) 2 rfl q_X1_areAlike ⟨⟨rfl, rfl⟩, Nat.le_of_ble_eq_true rfl, Nat.le_of_ble_eq_true rfl⟩ hG [0, 1, 2, 3, 4] rfl 0 rfl rfl rfl rfl rfl (Nat.le_of_ble_eq_true rfl) hl.1 ⟨Nat.zero_le _, Nat.zero_le _⟩ dX1_covers_16 ?_
    refine zz_ifb_ne (pc := 19) (tgt := 50) S dX1_covers_19 (by decide) (fun c19 => ?_) (fun c19 => ?_)
    · refine zz_iconst (pc := 50) (v := nI 0) S dX1_covers_50 rfl ?_
      exact zz_bretS (pc := 51) S hr hlocks (by decide) (congrArg nI (zB_f (by first | omega | grind)).symm) dX1_covers_51
    · refine lv_aload_n (pc := 22) S.1 S.2.1 dX1_covers_22 rfl (lv_at hl 0 rfl) ?_
      refine zz_iconst (pc := 23) (v := nI 2) S dX1_covers_23 rfl ?_
      refine lv_iload_n (pc := 24) S.1 S.2.1 dX1_covers_24 rfl (lv_at hl 2 rfl) ?_
      refine zz_imul (pc := 25) (v := nI (2 * b)) S dX1_covers_25 (n_mul _ _) ?_
      refine lv_iload_n (pc := 26) S.1 S.2.1 dX1_covers_26 rfl (lv_at hl 1 rfl) ?_
      refine zz_callV (pc := 27) (As := [.int (nI (2 * b)), .int (nI a)]) (rest := []) S (c_X1_liesOn l D cI cR d e1 e2 e3 e4 n P X Y L (2 * b) a hok (by omega) (by omega)) (zuV wd_246 wd_243 wd_244 wd_245 wd_14) 2 rfl q_X1_liesOn ⟨⟨rfl, rfl⟩, Nat.le_of_ble_eq_true rfl, Nat.le_of_ble_eq_true rfl⟩ hG [0, 1, 2, 3, 4] rfl 0 rfl rfl rfl rfl rfl (Nat.le_of_ble_eq_true rfl) hl.1 ⟨Nat.zero_le _, Nat.zero_le _⟩ dX1_covers_27 ?_
      refine zz_ifb_eq (pc := 30) (tgt := 50) S dX1_covers_30 (by decide) (fun c30 => ?_) (fun c30 => ?_)
      · refine zz_iconst (pc := 50) (v := nI 0) S dX1_covers_50 rfl ?_
        exact zz_bretS (pc := 51) S hr hlocks (by decide) (congrArg nI (zB_f (by first | omega | grind)).symm) dX1_covers_51
      · refine lv_aload_n (pc := 33) S.1 S.2.1 dX1_covers_33 rfl (lv_at hl 0 rfl) ?_
        refine zz_iconst (pc := 34) (v := nI 2) S dX1_covers_34 rfl ?_
        refine lv_iload_n (pc := 35) S.1 S.2.1 dX1_covers_35 rfl (lv_at hl 2 rfl) ?_
        refine zz_imul (pc := 36) (v := nI (2 * b)) S dX1_covers_36 (n_mul _ _) ?_
        refine zz_iconst (pc := 37) (v := nI 1) S dX1_covers_37 rfl ?_
        refine zz_iadd (pc := 38) (v := nI (2 * b + 1)) S dX1_covers_38 (n_add _ _) ?_
        refine lv_iload_n (pc := 39) S.1 S.2.1 dX1_covers_39 rfl (lv_at hl 1 rfl) ?_
        refine zz_callV (pc := 40) (As := [.int (nI (2 * b + 1)), .int (nI a)]) (rest := []) S (c_X1_liesOn l D cI cR d e1 e2 e3 e4 n P X Y L (2 * b + 1) a hok (by omega) (by omega)) (zuV wd_246 wd_243 wd_244 wd_245 wd_14) 2 rfl q_X1_liesOn ⟨⟨rfl, rfl⟩, Nat.le_of_ble_eq_true rfl, Nat.le_of_ble_eq_true rfl⟩ hG [0, 1, 2, 3, 4] rfl 0 rfl rfl rfl rfl rfl (Nat.le_of_ble_eq_true rfl) hl.1 ⟨Nat.zero_le _, Nat.zero_le _⟩ dX1_covers_40 ?_
        refine zz_ifb_eq (pc := 43) (tgt := 50) S dX1_covers_43 (by decide) (fun c43 => ?_) (fun c43 => ?_)
        · refine zz_iconst (pc := 50) (v := nI 0) S dX1_covers_50 rfl ?_
          exact zz_bretS (pc := 51) S hr hlocks (by decide) (congrArg nI (zB_f (by first | omega | grind)).symm) dX1_covers_51
        · refine zz_iconst (pc := 46) (v := nI 1) S dX1_covers_46 rfl ?_
          refine lv_goto (pc := 47) (tgt := 51) S.1 S.2.1 dX1_covers_47 (by decide) ?_
          exact zz_bretS (pc := 51) S hr hlocks (by decide) (congrArg nI (zB_t (by first | omega | grind)).symm) dX1_covers_51
abbrev wm_X1_cornerSquare : List Cond := .code yX1_cornerSquare cX1_cornerSquare 9 (some .int) :: wU
theorem q_X1_cornerSquare : yX1_cornerSquare.cls = RX1 ∧ yX1_cornerSquare.cls ≠ "java/lang/invoke/MethodHandle" ∧ yX1_cornerSquare.cls ≠ "java/lang/invoke/VarHandle" ∧ (parseMethodDescriptor yX1_cornerSquare.desc).map (fun d => d.parameters.length) = some 2 := by decide +kernel
set_option maxHeartbeats 4000000 in
set_option maxRecDepth 100000 in
theorem c_X1_cornerSquare (l : Launch) (D : va_G) (cI cR : ClassId) (d e1 e2 e3 e4 n : Nat) (P X Y L : Nat → Nat) (a : Nat) (V : Nat) (hok : zOk n P X Y L) (ha : a + 1 < n) (hV : V ≤ 9999) : Met l yX1_cornerSquare wm_X1_cornerSquare ({ frames := 2, cells := 0, slots := 0, locals := 42 } : Room) (va_Pc [.ref d, .int (nI a), .int (nI V)] (zW D cI cR [(d, .inr (1, [.int (nI n), .ref e1, .ref e2, .ref e3, .ref e4])), (e1, zA cI 8 P), (e2, zA cI 16 X), (e3, zA cI 16 Y), (e4, zA cI 8 L)])) (vp_Si (fun r => r = nI (crn X Y V (L a) (L (a + 1))))) 0 0 (fun _ => False) := by
  refine Met.ofW (cc := cX1_cornerSquare) (maxL := 9) (ret := (some .int)) (by decide) rfl ?_
  intro p e s m args below meth c s₁ B hml hv
  obtain ⟨rfl, hG⟩ := hv
  have S : CallFix p m c cX1_cornerSquare 9 s ([.ref d, .int (nI a), .int (nI V)] : List Value).toArray wU RX1 := ⟨B.exec, B.bytes, hml, findClass_of_methodNamed B.named, fun w h => atoms_spec (ws := wm_X1_cornerSquare) B.pre w (List.mem_cons_of_mem _ h)⟩
  have hr := B.returns
  have hlocks := B.notSynchronized
  have hG : zG D cI cR [(d, .inr (1, [.int (nI n), .ref e1, .ref e2, .ref e3, .ref e4])), (e1, zA cI 8 P), (e2, zA cI 16 X), (e3, zA cI 16 Y), (e4, zA cI 8 L)] s s.heap := hG
  have hl := lv_entry ([.ref d, .int (nI a), .int (nI V)]) (n := 9) (Nat.le_of_ble_eq_true rfl)
  rw [lg_entry_eq]
  generalize (lg_sl ([.ref d, .int (nI a), .int (nI V)]) ++ List.replicate (9 - (lg_sl ([.ref d, .int (nI a), .int (nI V)])).length) Slot.unset).toArray = ls at hl ⊢
  have hl : lv_has ls 9 [(0, .ref d), (1, .int (nI a)), (2, .int (nI V))] := hl
  obtain ⟨hn, hPf, hXY, hLf, hinj⟩ := id hok
  refine lv_aload_n (pc := 0) S.1 S.2.1 dX1_cornerSquare_0 rfl (lv_at hl 0 rfl) ?_
  refine lv_iload_n (pc := 1) S.1 S.2.1 dX1_cornerSquare_1 rfl (lv_at hl 1 rfl) ?_
  refine zz_callV (pc := 2) (As := [.int (nI a)]) (rest := []) S (c_X1_codeAt l D cI cR d e1 e2 e3 e4 n P X Y L a hok (by omega)) (zuV wd_351 wd_622 wd_349 wd_350 wd_14) 1 rfl q_X1_codeAt ⟨⟨rfl, rfl⟩, Nat.le_of_ble_eq_true rfl, Nat.le_of_ble_eq_true rfl⟩ hG [0, 1, 2, 3, 4] rfl 0 rfl rfl rfl rfl rfl (Nat.le_of_ble_eq_true rfl) hl.1 ⟨Nat.zero_le _, Nat.zero_le _⟩ dX1_cornerSquare_2 ?_
  have g1 := hLf a (by omega)
  refine lv_istore_n (pc := 5) (lv' := [(3, .int (nI (L a))), (0, .ref d), (1, .int (nI a)), (2, .int (nI V))]) S.1 S.2.1 dX1_cornerSquare_5 rfl hl (by decide) rfl (fun ls hl => ?_)
  refine lv_aload_n (pc := 6) S.1 S.2.1 dX1_cornerSquare_6 rfl (lv_at hl 1 rfl) ?_
  refine lv_iload_n (pc := 7) S.1 S.2.1 dX1_cornerSquare_7 rfl (lv_at hl 2 rfl) ?_
  refine zz_iconst (pc := 8) (v := nI 1) S dX1_cornerSquare_8 rfl ?_
  refine zz_iadd (pc := 9) (v := nI (a + 1)) S dX1_cornerSquare_9 (n_add _ _) ?_
  refine zz_callV (pc := 10) (As := [.int (nI (a + 1))]) (rest := []) S (c_X1_codeAt l D cI cR d e1 e2 e3 e4 n P X Y L (a + 1) hok (by omega)) (zuV wd_351 wd_622 wd_349 wd_350 wd_14) 1 rfl q_X1_codeAt ⟨⟨rfl, rfl⟩, Nat.le_of_ble_eq_true rfl, Nat.le_of_ble_eq_true rfl⟩ hG [0, 1, 2, 3, 4] rfl 0 rfl rfl rfl rfl rfl (Nat.le_of_ble_eq_true rfl) hl.1 ⟨Nat.zero_le _, Nat.zero_le _⟩ dX1_cornerSquare_10 ?_
  have g2 := hLf (a + 1) (by omega)
  refine lv_istore (pc := 13) (lv' := [(4, .int (nI (L (a + 1)))), (3, .int (nI (L a))), (0, .ref d), (1, .int (nI a)), (2, .int (nI V))]) S.1 S.2.1 dX1_cornerSquare_13 hl (by decide) rfl (fun ls hl => ?_)
  refine lv_aload_n (pc := 15) S.1 S.2.1 dX1_cornerSquare_15 rfl (lv_at hl 2 rfl) ?_
  refine lv_iload_n (pc := 16) S.1 S.2.1 dX1_cornerSquare_16 rfl (lv_at hl 1 rfl) ?_
  refine zz_callV (pc := 17) (As := [.int (zI ((L a : Nat) : Int))]) (rest := []) S (c_X1_endXOf l D cI cR d e1 e2 e3 e4 n P X Y L ((L a : Nat) : Int) hok (by omega)) (zuV wd_254 wd_251 wd_252 wd_253 wd_14) 1 rfl q_X1_endXOf ⟨⟨rfl, rfl⟩, Nat.le_of_ble_eq_true rfl, Nat.le_of_ble_eq_true rfl⟩ hG [0, 1, 2, 3, 4] rfl 0 rfl rfl rfl rfl rfl (Nat.le_of_ble_eq_true rfl) hl.1 ⟨Nat.zero_le _, Nat.zero_le _⟩ dX1_cornerSquare_17 ?_
  refine zz_cast (v := nI (X (sw (L a)))) (congrArg nI (oX_n X (L a))) ?_
  have g3 := (hXY (sw (L a)) (sw_lt (by omega))).1
  refine lv_aload_n (pc := 20) S.1 S.2.1 dX1_cornerSquare_20 rfl (lv_at hl 2 rfl) ?_
  refine lv_iload_n (pc := 21) S.1 S.2.1 dX1_cornerSquare_21 rfl (lv_at hl 1 rfl) ?_
  refine zz_callV (pc := 22) (As := [.int (nI (L a))]) (rest := [.int (nI (X (sw (L a))))]) S (c_X1_beginXOf l D cI cR d e1 e2 e3 e4 n P X Y L (L a) hok (by omega)) (zuV wd_214 wd_211 wd_212 wd_213 wd_14) 1 rfl q_X1_beginXOf ⟨⟨rfl, rfl⟩, Nat.le_of_ble_eq_true rfl, Nat.le_of_ble_eq_true rfl⟩ hG [0, 1, 2, 3, 4] rfl 0 rfl rfl rfl rfl rfl (Nat.le_of_ble_eq_true rfl) hl.1 ⟨Nat.zero_le _, Nat.zero_le _⟩ dX1_cornerSquare_22 ?_
  have g4 := (hXY (L a) (by omega)).1
  refine zz_isub (pc := 25) (v := zI (((X (sw (L a)) : Nat) : Int) - ((X (L a) : Nat) : Int))) S dX1_cornerSquare_25 (zI_sub ((X (sw (L a)) : Nat) : Int) ((X (L a) : Nat) : Int)) ?_
  refine lv_istore (pc := 26) (lv' := [(5, .int (zI (((X (sw (L a)) : Nat) : Int) - ((X (L a) : Nat) : Int)))), (4, .int (nI (L (a + 1)))), (3, .int (nI (L a))), (0, .ref d), (1, .int (nI a)), (2, .int (nI V))]) S.1 S.2.1 dX1_cornerSquare_26 hl (by decide) rfl (fun ls hl => ?_)
  refine lv_aload_n (pc := 28) S.1 S.2.1 dX1_cornerSquare_28 rfl (lv_at hl 3 rfl) ?_
  refine lv_iload_n (pc := 29) S.1 S.2.1 dX1_cornerSquare_29 rfl (lv_at hl 2 rfl) ?_
  refine zz_callV (pc := 30) (As := [.int (zI ((L a : Nat) : Int))]) (rest := []) S (c_X1_endYOf l D cI cR d e1 e2 e3 e4 n P X Y L ((L a : Nat) : Int) hok (by omega)) (zuV wd_258 wd_255 wd_256 wd_257 wd_14) 1 rfl q_X1_endYOf ⟨⟨rfl, rfl⟩, Nat.le_of_ble_eq_true rfl, Nat.le_of_ble_eq_true rfl⟩ hG [0, 1, 2, 3, 4] rfl 0 rfl rfl rfl rfl rfl (Nat.le_of_ble_eq_true rfl) hl.1 ⟨Nat.zero_le _, Nat.zero_le _⟩ dX1_cornerSquare_30 ?_
  refine zz_cast (v := nI (Y (sw (L a)))) (congrArg nI (oX_n Y (L a))) ?_
  have g5 := (hXY (sw (L a)) (sw_lt (by omega))).2
  refine lv_aload_n (pc := 33) S.1 S.2.1 dX1_cornerSquare_33 rfl (lv_at hl 3 rfl) ?_
  refine lv_iload_n (pc := 34) S.1 S.2.1 dX1_cornerSquare_34 rfl (lv_at hl 2 rfl) ?_
  refine zz_callV (pc := 35) (As := [.int (nI (L a))]) (rest := [.int (nI (Y (sw (L a))))]) S (c_X1_beginYOf l D cI cR d e1 e2 e3 e4 n P X Y L (L a) hok (by omega)) (zuV wd_222 wd_219 wd_220 wd_221 wd_14) 1 rfl q_X1_beginYOf ⟨⟨rfl, rfl⟩, Nat.le_of_ble_eq_true rfl, Nat.le_of_ble_eq_true rfl⟩ hG [0, 1, 2, 3, 4] rfl 0 rfl rfl rfl rfl rfl (Nat.le_of_ble_eq_true rfl) hl.1 ⟨Nat.zero_le _, Nat.zero_le _⟩ dX1_cornerSquare_35 ?_
  have g6 := (hXY (L a) (by omega)).2
  refine zz_isub (pc := 38) (v := zI (((Y (sw (L a)) : Nat) : Int) - ((Y (L a) : Nat) : Int))) S dX1_cornerSquare_38 (zI_sub ((Y (sw (L a)) : Nat) : Int) ((Y (L a) : Nat) : Int)) ?_
  refine lv_istore (pc := 39) (lv' := [(6, .int (zI (((Y (sw (L a)) : Nat) : Int) - ((Y (L a) : Nat) : Int)))), (5, .int (zI (((X (sw (L a)) : Nat) : Int) - ((X (L a) : Nat) : Int)))), (4, .int (nI (L (a + 1)))), (3, .int (nI (L a))), (0, .ref d), (1, .int (nI a)), (2, .int (nI V))]) S.1 S.2.1 dX1_cornerSquare_39 hl (by decide) rfl (fun ls hl => ?_)
  refine lv_aload_n (pc := 41) S.1 S.2.1 dX1_cornerSquare_41 rfl (lv_at hl 4 rfl) ?_
  refine lv_iload (pc := 42) S.1 S.2.1 dX1_cornerSquare_42 (lv_at hl 2 rfl) ?_
  refine zz_callV (pc := 44) (As := [.int (zI ((L (a + 1) : Nat) : Int))]) (rest := []) S (c_X1_endXOf l D cI cR d e1 e2 e3 e4 n P X Y L ((L (a + 1) : Nat) : Int) hok (by omega)) (zuV wd_254 wd_251 wd_252 wd_253 wd_14) 1 rfl q_X1_endXOf ⟨⟨rfl, rfl⟩, Nat.le_of_ble_eq_true rfl, Nat.le_of_ble_eq_true rfl⟩ hG [0, 1, 2, 3, 4] rfl 0 rfl rfl rfl rfl rfl (Nat.le_of_ble_eq_true rfl) hl.1 ⟨Nat.zero_le _, Nat.zero_le _⟩ dX1_cornerSquare_44 ?_
  refine zz_cast (v := nI (X (sw (L (a + 1))))) (congrArg nI (oX_n X (L (a + 1)))) ?_
  have g7 := (hXY (sw (L (a + 1))) (sw_lt (by omega))).1
  refine lv_aload_n (pc := 47) S.1 S.2.1 dX1_cornerSquare_47 rfl (lv_at hl 4 rfl) ?_
  refine lv_iload (pc := 48) S.1 S.2.1 dX1_cornerSquare_48 (lv_at hl 2 rfl) ?_
  refine zz_callV (pc := 50) (As := [.int (nI (L (a + 1)))]) (rest := [.int (nI (X (sw (L (a + 1)))))]) S (c_X1_beginXOf l D cI cR d e1 e2 e3 e4 n P X Y L (L (a + 1)) hok (by omega)) (zuV wd_214 wd_211 wd_212 wd_213 wd_14) 1 rfl q_X1_beginXOf ⟨⟨rfl, rfl⟩, Nat.le_of_ble_eq_true rfl, Nat.le_of_ble_eq_true rfl⟩ hG [0, 1, 2, 3, 4] rfl 0 rfl rfl rfl rfl rfl (Nat.le_of_ble_eq_true rfl) hl.1 ⟨Nat.zero_le _, Nat.zero_le _⟩ dX1_cornerSquare_50 ?_
  have g8 := (hXY (L (a + 1)) (by omega)).1
  refine zz_isub (pc := 53) (v := zI (((X (sw (L (a + 1))) : Nat) : Int) - ((X (L (a + 1)) : Nat) : Int))) S dX1_cornerSquare_53 (zI_sub ((X (sw (L (a + 1))) : Nat) : Int) ((X (L (a + 1)) : Nat) : Int)) ?_
  refine lv_istore (pc := 54) (lv' := [(7, .int (zI (((X (sw (L (a + 1))) : Nat) : Int) - ((X (L (a + 1)) : Nat) : Int)))), (6, .int (zI (((Y (sw (L a)) : Nat) : Int) - ((Y (L a) : Nat) : Int)))), (5, .int (zI (((X (sw (L a)) : Nat) : Int) - ((X (L a) : Nat) : Int)))), (4, .int (nI (L (a + 1)))), (3, .int (nI (L a))), (0, .ref d), (1, .int (nI a)), (2, .int (nI V))]) S.1 S.2.1 dX1_cornerSquare_54 hl (by decide) rfl (fun ls hl => ?_)
  refine lv_aload_n (pc := 56) S.1 S.2.1 dX1_cornerSquare_56 rfl (lv_at hl 5 rfl) ?_
  refine lv_iload (pc := 57) S.1 S.2.1 dX1_cornerSquare_57 (lv_at hl 3 rfl) ?_
  refine zz_callV (pc := 59) (As := [.int (zI ((L (a + 1) : Nat) : Int))]) (rest := []) S (c_X1_endYOf l D cI cR d e1 e2 e3 e4 n P X Y L ((L (a + 1) : Nat) : Int) hok (by omega)) (zuV wd_258 wd_255 wd_256 wd_257 wd_14) 1 rfl q_X1_endYOf ⟨⟨rfl, rfl⟩, Nat.le_of_ble_eq_true rfl, Nat.le_of_ble_eq_true rfl⟩ hG [0, 1, 2, 3, 4] rfl 0 rfl rfl rfl rfl rfl (Nat.le_of_ble_eq_true rfl) hl.1 ⟨Nat.zero_le _, Nat.zero_le _⟩ dX1_cornerSquare_59 ?_
  refine zz_cast (v := nI (Y (sw (L (a + 1))))) (congrArg nI (oX_n Y (L (a + 1)))) ?_
  have g9 := (hXY (sw (L (a + 1))) (sw_lt (by omega))).2
  refine lv_aload_n (pc := 62) S.1 S.2.1 dX1_cornerSquare_62 rfl (lv_at hl 5 rfl) ?_
  refine lv_iload (pc := 63) S.1 S.2.1 dX1_cornerSquare_63 (lv_at hl 3 rfl) ?_
  refine zz_callV (pc := 65) (As := [.int (nI (L (a + 1)))]) (rest := [.int (nI (Y (sw (L (a + 1)))))]) S (c_X1_beginYOf l D cI cR d e1 e2 e3 e4 n P X Y L (L (a + 1)) hok (by omega)) (zuV wd_222 wd_219 wd_220 wd_221 wd_14) 1 rfl q_X1_beginYOf ⟨⟨rfl, rfl⟩, Nat.le_of_ble_eq_true rfl, Nat.le_of_ble_eq_true rfl⟩ hG [0, 1, 2, 3, 4] rfl 0 rfl rfl rfl rfl rfl (Nat.le_of_ble_eq_true rfl) hl.1 ⟨Nat.zero_le _, Nat.zero_le _⟩ dX1_cornerSquare_65 ?_
  have g10 := (hXY (L (a + 1)) (by omega)).2
  refine zz_isub (pc := 68) (v := zI (((Y (sw (L (a + 1))) : Nat) : Int) - ((Y (L (a + 1)) : Nat) : Int))) S dX1_cornerSquare_68 (zI_sub ((Y (sw (L (a + 1))) : Nat) : Int) ((Y (L (a + 1)) : Nat) : Int)) ?_
  refine lv_istore (pc := 69) (lv' := [(8, .int (zI (((Y (sw (L (a + 1))) : Nat) : Int) - ((Y (L (a + 1)) : Nat) : Int)))), (7, .int (zI (((X (sw (L (a + 1))) : Nat) : Int) - ((X (L (a + 1)) : Nat) : Int)))), (6, .int (zI (((Y (sw (L a)) : Nat) : Int) - ((Y (L a) : Nat) : Int)))), (5, .int (zI (((X (sw (L a)) : Nat) : Int) - ((X (L a) : Nat) : Int)))), (4, .int (nI (L (a + 1)))), (3, .int (nI (L a))), (0, .ref d), (1, .int (nI a)), (2, .int (nI V))]) S.1 S.2.1 dX1_cornerSquare_69 hl (by decide) rfl (fun ls hl => ?_)
  have m1 := mul_bd (a := ((X (sw (L a)) : Nat) : Int) - ((X (L a) : Nat) : Int)) (b := ((X (sw (L (a + 1))) : Nat) : Int) - ((X (L (a + 1)) : Nat) : Int)) 99 99 (by omega) (by omega) (by omega)
  have m2 := mul_bd (a := ((Y (sw (L a)) : Nat) : Int) - ((Y (L a) : Nat) : Int)) (b := ((Y (sw (L (a + 1))) : Nat) : Int) - ((Y (L (a + 1)) : Nat) : Int)) 99 99 (by omega) (by omega) (by omega)
  have m3 := mul_bd (a := ((X (sw (L a)) : Nat) : Int) - ((X (L a) : Nat) : Int)) (b := ((Y (sw (L (a + 1))) : Nat) : Int) - ((Y (L (a + 1)) : Nat) : Int)) 99 99 (by omega) (by omega) (by omega)
  have m4 := mul_bd (a := ((Y (sw (L a)) : Nat) : Int) - ((Y (L a) : Nat) : Int)) (b := ((X (sw (L (a + 1))) : Nat) : Int) - ((X (L (a + 1)) : Nat) : Int)) 99 99 (by omega) (by omega) (by omega)
  refine lv_iload (pc := 71) S.1 S.2.1 dX1_cornerSquare_71 (lv_at hl 3 rfl) ?_
  refine lv_iload (pc := 73) S.1 S.2.1 dX1_cornerSquare_73 (lv_at hl 1 rfl) ?_
  refine zz_imul (pc := 75) (v := zI ((((X (sw (L a)) : Nat) : Int) - ((X (L a) : Nat) : Int)) * (((X (sw (L (a + 1))) : Nat) : Int) - ((X (L (a + 1)) : Nat) : Int)))) S dX1_cornerSquare_75 (zI_mul (((X (sw (L a)) : Nat) : Int) - ((X (L a) : Nat) : Int)) (((X (sw (L (a + 1))) : Nat) : Int) - ((X (L (a + 1)) : Nat) : Int))) ?_
  refine lv_iload (pc := 76) S.1 S.2.1 dX1_cornerSquare_76 (lv_at hl 2 rfl) ?_
  refine lv_iload (pc := 78) S.1 S.2.1 dX1_cornerSquare_78 (lv_at hl 0 rfl) ?_
  refine zz_imul (pc := 80) (v := zI ((((Y (sw (L a)) : Nat) : Int) - ((Y (L a) : Nat) : Int)) * (((Y (sw (L (a + 1))) : Nat) : Int) - ((Y (L (a + 1)) : Nat) : Int)))) S dX1_cornerSquare_80 (zI_mul (((Y (sw (L a)) : Nat) : Int) - ((Y (L a) : Nat) : Int)) (((Y (sw (L (a + 1))) : Nat) : Int) - ((Y (L (a + 1)) : Nat) : Int))) ?_
  refine zz_iadd (pc := 81) (v := zI ((((X (sw (L a)) : Nat) : Int) - ((X (L a) : Nat) : Int)) * (((X (sw (L (a + 1))) : Nat) : Int) - ((X (L (a + 1)) : Nat) : Int)) + ((((Y (sw (L a)) : Nat) : Int) - ((Y (L a) : Nat) : Int)) * (((Y (sw (L (a + 1))) : Nat) : Int) - ((Y (L (a + 1)) : Nat) : Int))))) S dX1_cornerSquare_81 (zI_add ((((X (sw (L a)) : Nat) : Int) - ((X (L a) : Nat) : Int)) * (((X (sw (L (a + 1))) : Nat) : Int) - ((X (L (a + 1)) : Nat) : Int))) ((((Y (sw (L a)) : Nat) : Int) - ((Y (L a) : Nat) : Int)) * (((Y (sw (L (a + 1))) : Nat) : Int) - ((Y (L (a + 1)) : Nat) : Int)))) ?_
  refine zz_if_gt (pc := 82) (tgt := 87) S dX1_cornerSquare_82 (by decide) (z_gt0 (by unfold zR; omega)) (fun c82 => ?_) (fun c82 => ?_)
  · refine lv_iload (pc := 87) S.1 S.2.1 dX1_cornerSquare_87 (lv_at hl 3 rfl) ?_
    refine lv_iload (pc := 89) S.1 S.2.1 dX1_cornerSquare_89 (lv_at hl 0 rfl) ?_
    refine zz_imul (pc := 91) (v := zI ((((X (sw (L a)) : Nat) : Int) - ((X (L a) : Nat) : Int)) * (((Y (sw (L (a + 1))) : Nat) : Int) - ((Y (L (a + 1)) : Nat) : Int)))) S dX1_cornerSquare_91 (zI_mul (((X (sw (L a)) : Nat) : Int) - ((X (L a) : Nat) : Int)) (((Y (sw (L (a + 1))) : Nat) : Int) - ((Y (L (a + 1)) : Nat) : Int))) ?_
    refine lv_iload (pc := 92) S.1 S.2.1 dX1_cornerSquare_92 (lv_at hl 2 rfl) ?_
    refine lv_iload (pc := 94) S.1 S.2.1 dX1_cornerSquare_94 (lv_at hl 1 rfl) ?_
    refine zz_imul (pc := 96) (v := zI ((((Y (sw (L a)) : Nat) : Int) - ((Y (L a) : Nat) : Int)) * (((X (sw (L (a + 1))) : Nat) : Int) - ((X (L (a + 1)) : Nat) : Int)))) S dX1_cornerSquare_96 (zI_mul (((Y (sw (L a)) : Nat) : Int) - ((Y (L a) : Nat) : Int)) (((X (sw (L (a + 1))) : Nat) : Int) - ((X (L (a + 1)) : Nat) : Int))) ?_
    refine zz_icmp_ne (pc := 97) (tgt := 104) S dX1_cornerSquare_97 (by decide) (zI_eq (a := (((X (sw (L a)) : Nat) : Int) - ((X (L a) : Nat) : Int)) * (((Y (sw (L (a + 1))) : Nat) : Int) - ((Y (L (a + 1)) : Nat) : Int))) (b := (((Y (sw (L a)) : Nat) : Int) - ((Y (L a) : Nat) : Int)) * (((X (sw (L (a + 1))) : Nat) : Int) - ((X (L (a + 1)) : Nat) : Int))) (by unfold zR; omega) (by unfold zR; omega)) (fun c97 => ?_) (fun c97 => ?_)
    · refine lv_iload_n (pc := 104) S.1 S.2.1 dX1_cornerSquare_104 rfl (lv_at hl 8 rfl) ?_
      refine zz_iconst (pc := 105) (v := nI 4) S dX1_cornerSquare_105 rfl ?_
      refine zz_idiv (pc := 106) (v := nI (V / 4)) S dX1_cornerSquare_106 (by decide) (n_div (by omega) (by decide) (by decide)) ?_
      exact zz_iretS (pc := 107) S hr hlocks (congrArg nI (by first | exact (crn_0 (by unfold dxx; omega)).symm | exact (crn_1 (by unfold dxx; omega) (by unfold dxx; omega)).symm | exact (crn_4 (by unfold dxx; omega) (by unfold dxx; omega)).symm)) dX1_cornerSquare_107
    · refine lv_iload_n (pc := 100) S.1 S.2.1 dX1_cornerSquare_100 rfl (lv_at hl 8 rfl) ?_
      refine lv_goto (pc := 101) (tgt := 107) S.1 S.2.1 dX1_cornerSquare_101 (by decide) ?_
      exact zz_iretS (pc := 107) S hr hlocks (congrArg nI (by first | exact (crn_0 (by unfold dxx; omega)).symm | exact (crn_1 (by unfold dxx; omega) (by unfold dxx; omega)).symm | exact (crn_4 (by unfold dxx; omega) (by unfold dxx; omega)).symm)) dX1_cornerSquare_107
  · refine zz_iconst (pc := 85) (v := nI 0) S dX1_cornerSquare_85 rfl ?_
    exact zz_iretS (pc := 86) S hr hlocks (congrArg nI (by first | exact (crn_0 (by unfold dxx; omega)).symm | exact (crn_1 (by unfold dxx; omega) (by unfold dxx; omega)).symm | exact (crn_4 (by unfold dxx; omega) (by unfold dxx; omega)).symm)) dX1_cornerSquare_86
abbrev wm_X1_planCost : List Cond := .code yX1_planCost cX1_planCost 5 (some .int) :: wU
theorem q_X1_planCost : yX1_planCost.cls = RX1 ∧ yX1_planCost.cls ≠ "java/lang/invoke/MethodHandle" ∧ yX1_planCost.cls ≠ "java/lang/invoke/VarHandle" ∧ (parseMethodDescriptor yX1_planCost.desc).map (fun d => d.parameters.length) = some 1 := by decide +kernel
set_option maxHeartbeats 4000000 in
set_option maxRecDepth 100000 in
theorem c_X1_planCost (l : Launch) (D : va_G) (cI cR : ClassId) (d e1 e2 e3 e4 n : Nat) (P X Y L : Nat → Nat) (C : Nat) (hok : zOk n P X Y L) (hC : C ≤ 500) : Met l yX1_planCost wm_X1_planCost ({ frames := 4, cells := 0, slots := 0, locals := 88 } : Room) (va_Pc [.ref d, .int (nI C)] (zW D cI cR [(d, .inr (1, [.int (nI n), .ref e1, .ref e2, .ref e3, .ref e4])), (e1, zA cI 8 P), (e2, zA cI 16 X), (e3, zA cI 16 Y), (e4, zA cI 8 L)])) (vp_Si (fun r => r = nI (zs (fun j => stp P X Y C (prv L j) (L j)) n))) 0 0 (fun _ => False) := by
  refine Met.ofW (cc := cX1_planCost) (maxL := 5) (ret := (some .int)) (by decide) rfl ?_
  intro p e s m args below meth c s₁ B hml hv
  obtain ⟨rfl, hG⟩ := hv
  have S : CallFix p m c cX1_planCost 5 s ([.ref d, .int (nI C)] : List Value).toArray wU RX1 := ⟨B.exec, B.bytes, hml, findClass_of_methodNamed B.named, fun w h => atoms_spec (ws := wm_X1_planCost) B.pre w (List.mem_cons_of_mem _ h)⟩
  have hr := B.returns
  have hlocks := B.notSynchronized
  have hG : zG D cI cR [(d, .inr (1, [.int (nI n), .ref e1, .ref e2, .ref e3, .ref e4])), (e1, zA cI 8 P), (e2, zA cI 16 X), (e3, zA cI 16 Y), (e4, zA cI 8 L)] s s.heap := hG
  have hl := lv_entry ([.ref d, .int (nI C)]) (n := 5) (Nat.le_of_ble_eq_true rfl)
  rw [lg_entry_eq]
  generalize (lg_sl ([.ref d, .int (nI C)]) ++ List.replicate (5 - (lg_sl ([.ref d, .int (nI C)])).length) Slot.unset).toArray = ls at hl ⊢
  have hl : lv_has ls 5 [(0, .ref d), (1, .int (nI C))] := hl
  obtain ⟨hn, hPf, hXY, hLf, hinj⟩ := id hok
  refine zz_iconst (pc := 0) (v := nI 0) S dX1_planCost_0 rfl ?_
  refine lv_istore_n (pc := 1) (lv' := [(2, .int (nI 0)), (0, .ref d), (1, .int (nI C))]) S.1 S.2.1 dX1_planCost_1 rfl hl (by decide) rfl (fun ls hl => ?_)
  refine zz_iconst (pc := 2) (v := zI (-1)) S dX1_planCost_2 rfl ?_
  refine lv_istore_n (pc := 3) (lv' := [(3, .int (zI (-1))), (2, .int (nI 0)), (0, .ref d), (1, .int (nI C))]) S.1 S.2.1 dX1_planCost_3 rfl hl (by decide) rfl (fun ls hl => ?_)
  refine zz_iconst (pc := 4) (v := nI 0) S dX1_planCost_4 rfl ?_
  refine lv_istore (pc := 5) (lv' := [(4, .int (nI 0)), (3, .int (zI (-1))), (2, .int (nI 0)), (0, .ref d), (1, .int (nI C))]) S.1 S.2.1 dX1_planCost_5 hl (by decide) rfl (fun ls hl => ?_)
  have L1 : ∀ (f : Nat) (k : Nat), (k ≤ n) → n - k < f → ∀ ls : Array Slot, lv_has ls 5 [(0, .ref d), (1, .int (nI C)), (2, .int (nI (zs (fun j => stp P X Y C (prv L j) (L j)) k))), (3, .int (zI (prv L k))), (4, .int (nI k))] → W p l e (headSpec wm_X1_planCost ({ frames := 4, cells := 0, slots := 0, locals := 88 } : Room)).room s m ([.ref d, .int (nI C)] : List Value).toArray below meth c s.heap [] 0 0 (MQ below (vp_Si (fun r => r = nI (zs (fun j => stp P X Y C (prv L j) (L j)) n))) ([.ref d, .int (nI C)] : List Value).toArray s 0 0 (fun _ => False)) (F0 m 7 ls []) := by
    intro f
    induction f with
    | zero => intro k hk hf; exact absurd hf (Nat.not_lt_zero _)
    | succ f ih2 =>
      intro k hk hf ls hl
      have hp := prv_rng (L := L) (n := n) hLf hk
      refine lv_iload (pc := 7) S.1 S.2.1 dX1_planCost_7 (lv_at hl 4 rfl) ?_
      refine lv_aload_n (pc := 9) S.1 S.2.1 dX1_planCost_9 rfl (lv_at hl 0 rfl) ?_
      refine zz_get (pc := 10) S hG iX1 0 rfl rfl 0 (by decide) wd_93 rfl rfl dX1_planCost_10 ?_
      refine zz_icmp_ge (pc := 13) (tgt := 46) S dX1_planCost_13 (by decide) (n_le (by omega) (by omega)) (fun c13 => ?_) (fun c13 => ?_)
      · refine lv_iload_n (pc := 46) S.1 S.2.1 dX1_planCost_46 rfl (lv_at hl 2 rfl) ?_
        exact zz_iretS (pc := 47) S hr hlocks (congrArg nI (by rw [show k = n by omega])) dX1_planCost_47
      · refine lv_iload_n (pc := 16) S.1 S.2.1 dX1_planCost_16 rfl (lv_at hl 2 rfl) ?_
        refine lv_aload_n (pc := 17) S.1 S.2.1 dX1_planCost_17 rfl (lv_at hl 0 rfl) ?_
        refine lv_iload_n (pc := 18) S.1 S.2.1 dX1_planCost_18 rfl (lv_at hl 3 rfl) ?_
        refine lv_aload_n (pc := 19) S.1 S.2.1 dX1_planCost_19 rfl (lv_at hl 0 rfl) ?_
        refine zz_get (pc := 20) S hG iX1 0 rfl rfl 4 (by decide) wd_42 rfl rfl dX1_planCost_20 ?_
        refine lv_iload (pc := 23) S.1 S.2.1 dX1_planCost_23 (lv_at hl 4 rfl) ?_
        refine zz_iald (pc := 25) (k := k) S hG 4 rfl (by omega) dX1_planCost_25 ?_
        have g3 := hLf k (by omega)
        refine lv_iload_n (pc := 26) S.1 S.2.1 dX1_planCost_26 rfl (lv_at hl 1 rfl) ?_
        refine zz_callV (pc := 27) (As := [.int (zI (prv L k)), .int (nI (L k)), .int (nI C)]) (rest := [.int (nI (zs (fun j => stp P X Y C (prv L j) (L j)) k))]) S (c_X1_stepCost l D cI cR d e1 e2 e3 e4 n P X Y L (prv L k) (L k) C hok (by omega) (by omega) (by omega)) (zuV wd_408 wd_405 wd_406 wd_407 wd_14) 3 rfl q_X1_stepCost ⟨⟨rfl, rfl⟩, Nat.le_of_ble_eq_true rfl, Nat.le_of_ble_eq_true rfl⟩ hG [0, 1, 2, 3, 4] rfl 0 rfl rfl rfl rfl rfl (Nat.le_of_ble_eq_true rfl) hl.1 ⟨Nat.zero_le _, Nat.zero_le _⟩ dX1_planCost_27 ?_
        have g4 := stp_le (P := P) (X := X) (Y := Y) (C := C) (a := (prv L k)) (b := (L k)) (n := n) hXY (by omega) (by omega)
        refine zz_iadd (pc := 30) (v := nI (zs (fun j => stp P X Y C (prv L j) (L j)) k + (stp P X Y C (prv L k) (L k)))) S dX1_planCost_30 (n_add _ _) ?_
        refine lv_istore_n (pc := 31) (lv' := [(2, .int (nI (zs (fun j => stp P X Y C (prv L j) (L j)) k + (stp P X Y C (prv L k) (L k))))), (0, .ref d), (1, .int (nI C)), (3, .int (zI (prv L k))), (4, .int (nI k))]) S.1 S.2.1 dX1_planCost_31 rfl hl (by decide) rfl (fun ls hl => ?_)
        refine lv_aload_n (pc := 32) S.1 S.2.1 dX1_planCost_32 rfl (lv_at hl 1 rfl) ?_
        refine zz_get (pc := 33) S hG iX1 0 rfl rfl 4 (by decide) wd_42 rfl rfl dX1_planCost_33 ?_
        refine lv_iload (pc := 36) S.1 S.2.1 dX1_planCost_36 (lv_at hl 4 rfl) ?_
        refine zz_iald (pc := 38) (k := k) S hG 4 rfl (by omega) dX1_planCost_38 ?_
        have g5 := hLf k (by omega)
        refine lv_istore_n (pc := 39) (lv' := [(3, .int (nI (L k))), (2, .int (nI (zs (fun j => stp P X Y C (prv L j) (L j)) k + (stp P X Y C (prv L k) (L k))))), (0, .ref d), (1, .int (nI C)), (4, .int (nI k))]) S.1 S.2.1 dX1_planCost_39 rfl hl (by decide) rfl (fun ls hl => ?_)
        refine lv_iinc (pc := 40) (v := nI (k + 1)) (lv' := [(4, .int (nI (k + 1))), (3, .int (nI (L k))), (2, .int (nI (zs (fun j => stp P X Y C (prv L j) (L j)) k + (stp P X Y C (prv L k) (L k))))), (0, .ref d), (1, .int (nI C))]) S.1 S.2.1 dX1_planCost_40 hl (k := 4) rfl (n_add _ _) (by decide) rfl (fun ls hl => ?_)
        refine lv_goto (pc := 43) (tgt := 7) S.1 S.2.1 dX1_planCost_43 (by decide) ?_
        exact ih2 (k + 1) (by omega) (by omega) ls (lv_sub hl [3, 4, 2, 1, 0] rfl)
  exact L1 (n - 0 + 1) 0 (by omega) (Nat.lt_succ_self _) ls (lv_sub hl [3, 4, 2, 1, 0] rfl)
abbrev wm_X1_countPenChanges : List Cond := .code yX1_countPenChanges cX1_countPenChanges 4 (some .int) :: wU
theorem q_X1_countPenChanges : yX1_countPenChanges.cls = RX1 ∧ yX1_countPenChanges.cls ≠ "java/lang/invoke/MethodHandle" ∧ yX1_countPenChanges.cls ≠ "java/lang/invoke/VarHandle" ∧ (parseMethodDescriptor yX1_countPenChanges.desc).map (fun d => d.parameters.length) = some 0 := by decide +kernel
set_option maxHeartbeats 4000000 in
set_option maxRecDepth 100000 in
theorem c_X1_countPenChanges (l : Launch) (D : va_G) (cI cR : ClassId) (d e1 e2 e3 e4 n : Nat) (P X Y L : Nat → Nat) (hok : zOk n P X Y L) : Met l yX1_countPenChanges wm_X1_countPenChanges ({ frames := 3, cells := 0, slots := 0, locals := 64 } : Room) (va_Pc [.ref d] (zW D cI cR [(d, .inr (1, [.int (nI n), .ref e1, .ref e2, .ref e3, .ref e4])), (e1, zA cI 8 P), (e2, zA cI 16 X), (e3, zA cI 16 Y), (e4, zA cI 8 L)])) (vp_Si (fun r => r = nI (zs (fun j => zB (¬ oP P (prv L j) = oP P ((L j : Nat) : Int))) n))) 0 0 (fun _ => False) := by
  refine Met.ofW (cc := cX1_countPenChanges) (maxL := 4) (ret := (some .int)) (by decide) rfl ?_
  intro p e s m args below meth c s₁ B hml hv
  obtain ⟨rfl, hG⟩ := hv
  have S : CallFix p m c cX1_countPenChanges 4 s ([.ref d] : List Value).toArray wU RX1 := ⟨B.exec, B.bytes, hml, findClass_of_methodNamed B.named, fun w h => atoms_spec (ws := wm_X1_countPenChanges) B.pre w (List.mem_cons_of_mem _ h)⟩
  have hr := B.returns
  have hlocks := B.notSynchronized
  have hG : zG D cI cR [(d, .inr (1, [.int (nI n), .ref e1, .ref e2, .ref e3, .ref e4])), (e1, zA cI 8 P), (e2, zA cI 16 X), (e3, zA cI 16 Y), (e4, zA cI 8 L)] s s.heap := hG
  have hl := lv_entry ([.ref d]) (n := 4) (Nat.le_of_ble_eq_true rfl)
  rw [lg_entry_eq]
  generalize (lg_sl ([.ref d]) ++ List.replicate (4 - (lg_sl ([.ref d])).length) Slot.unset).toArray = ls at hl ⊢
  have hl : lv_has ls 4 [(0, .ref d)] := hl
  obtain ⟨hn, hPf, hXY, hLf, hinj⟩ := id hok
  refine zz_iconst (pc := 0) (v := nI 0) S dX1_countPenChanges_0 rfl ?_
  refine lv_istore_n (pc := 1) (lv' := [(1, .int (nI 0)), (0, .ref d)]) S.1 S.2.1 dX1_countPenChanges_1 rfl hl (by decide) rfl (fun ls hl => ?_)
  refine zz_iconst (pc := 2) (v := zI (-1)) S dX1_countPenChanges_2 rfl ?_
  refine lv_istore_n (pc := 3) (lv' := [(2, .int (zI (-1))), (1, .int (nI 0)), (0, .ref d)]) S.1 S.2.1 dX1_countPenChanges_3 rfl hl (by decide) rfl (fun ls hl => ?_)
  refine zz_iconst (pc := 4) (v := nI 0) S dX1_countPenChanges_4 rfl ?_
  refine lv_istore_n (pc := 5) (lv' := [(3, .int (nI 0)), (2, .int (zI (-1))), (1, .int (nI 0)), (0, .ref d)]) S.1 S.2.1 dX1_countPenChanges_5 rfl hl (by decide) rfl (fun ls hl => ?_)
  have L1 : ∀ (f : Nat) (k : Nat), (k ≤ n) → n - k < f → ∀ ls : Array Slot, lv_has ls 4 [(0, .ref d), (1, .int (nI (zs (fun j => zB (¬ oP P (prv L j) = oP P ((L j : Nat) : Int))) k))), (2, .int (zI (prv L k))), (3, .int (nI k))] → W p l e (headSpec wm_X1_countPenChanges ({ frames := 3, cells := 0, slots := 0, locals := 64 } : Room)).room s m ([.ref d] : List Value).toArray below meth c s.heap [] 0 0 (MQ below (vp_Si (fun r => r = nI (zs (fun j => zB (¬ oP P (prv L j) = oP P ((L j : Nat) : Int))) n))) ([.ref d] : List Value).toArray s 0 0 (fun _ => False)) (F0 m 6 ls []) := by
    intro f
    induction f with
    | zero => intro k hk hf; exact absurd hf (Nat.not_lt_zero _)
    | succ f ih2 =>
      intro k hk hf ls hl
      have hp := prv_rng (L := L) (n := n) hLf hk
      refine lv_iload_n (pc := 6) S.1 S.2.1 dX1_countPenChanges_6 rfl (lv_at hl 3 rfl) ?_
      refine lv_aload_n (pc := 7) S.1 S.2.1 dX1_countPenChanges_7 rfl (lv_at hl 0 rfl) ?_
      refine zz_get (pc := 8) S hG iX1 0 rfl rfl 0 (by decide) wd_93 rfl rfl dX1_countPenChanges_8 ?_
      refine zz_icmp_ge (pc := 11) (tgt := 44) S dX1_countPenChanges_11 (by decide) (n_le (by omega) (by omega)) (fun c11 => ?_) (fun c11 => ?_)
      · refine lv_iload_n (pc := 44) S.1 S.2.1 dX1_countPenChanges_44 rfl (lv_at hl 1 rfl) ?_
        exact zz_iretS (pc := 45) S hr hlocks (congrArg nI (by rw [show k = n by omega])) dX1_countPenChanges_45
      · refine lv_aload_n (pc := 14) S.1 S.2.1 dX1_countPenChanges_14 rfl (lv_at hl 0 rfl) ?_
        refine lv_iload_n (pc := 15) S.1 S.2.1 dX1_countPenChanges_15 rfl (lv_at hl 2 rfl) ?_
        refine lv_aload_n (pc := 16) S.1 S.2.1 dX1_countPenChanges_16 rfl (lv_at hl 0 rfl) ?_
        refine zz_get (pc := 17) S hG iX1 0 rfl rfl 4 (by decide) wd_42 rfl rfl dX1_countPenChanges_17 ?_
        refine lv_iload_n (pc := 20) S.1 S.2.1 dX1_countPenChanges_20 rfl (lv_at hl 3 rfl) ?_
        refine zz_iald (pc := 21) (k := k) S hG 4 rfl (by omega) dX1_countPenChanges_21 ?_
        have g3 := hLf k (by omega)
        refine zz_callV (pc := 22) (As := [.int (zI (prv L k)), .int (zI ((L k : Nat) : Int))]) (rest := []) S (c_X1_changesPen l D cI cR d e1 e2 e3 e4 n P X Y L (prv L k) ((L k : Nat) : Int) hok (by omega) (by omega)) (zuV wd_418 wd_415 wd_416 wd_417 wd_14) 2 rfl q_X1_changesPen ⟨⟨rfl, rfl⟩, Nat.le_of_ble_eq_true rfl, Nat.le_of_ble_eq_true rfl⟩ hG [0, 1, 2, 3, 4] rfl 0 rfl rfl rfl rfl rfl (Nat.le_of_ble_eq_true rfl) hl.1 ⟨Nat.zero_le _, Nat.zero_le _⟩ dX1_countPenChanges_22 ?_
        refine zz_ifb_eq (pc := 25) (tgt := 31) S dX1_countPenChanges_25 (by decide) (fun c25 => ?_) (fun c25 => ?_)
        · have w1 : zs (fun j => zB (¬ oP P (prv L j) = oP P ((L j : Nat) : Int))) (k + 1) = zs (fun j => zB (¬ oP P (prv L j) = oP P ((L j : Nat) : Int))) k := zs_f (P := fun j => ¬ oP P (prv L j) = oP P ((L j : Nat) : Int)) c25
          refine lv_aload_n (pc := 31) S.1 S.2.1 dX1_countPenChanges_31 rfl (lv_at hl 0 rfl) ?_
          refine zz_get (pc := 32) S hG iX1 0 rfl rfl 4 (by decide) wd_42 rfl rfl dX1_countPenChanges_32 ?_
          refine lv_iload_n (pc := 35) S.1 S.2.1 dX1_countPenChanges_35 rfl (lv_at hl 3 rfl) ?_
          refine zz_iald (pc := 36) (k := k) S hG 4 rfl (by omega) dX1_countPenChanges_36 ?_
          have g4 := hLf k (by omega)
          refine lv_istore_n (pc := 37) (lv' := [(2, .int (nI (L k))), (0, .ref d), (1, .int (nI (zs (fun j => zB (¬ oP P (prv L j) = oP P ((L j : Nat) : Int))) k))), (3, .int (nI k))]) S.1 S.2.1 dX1_countPenChanges_37 rfl hl (by decide) rfl (fun ls hl => ?_)
          refine lv_iinc (pc := 38) (v := nI (k + 1)) (lv' := [(3, .int (nI (k + 1))), (2, .int (nI (L k))), (0, .ref d), (1, .int (nI (zs (fun j => zB (¬ oP P (prv L j) = oP P ((L j : Nat) : Int))) k)))]) S.1 S.2.1 dX1_countPenChanges_38 hl (k := 3) rfl (n_add _ _) (by decide) rfl (fun ls hl => ?_)
          refine lv_goto (pc := 41) (tgt := 6) S.1 S.2.1 dX1_countPenChanges_41 (by decide) ?_
          exact ih2 (k + 1) (by omega) (by omega) ls (by rw [w1]; exact lv_sub hl [2, 3, 1, 0] rfl)
        · have w1 : zs (fun j => zB (¬ oP P (prv L j) = oP P ((L j : Nat) : Int))) (k + 1) = zs (fun j => zB (¬ oP P (prv L j) = oP P ((L j : Nat) : Int))) k + 1 := zs_t (P := fun j => ¬ oP P (prv L j) = oP P ((L j : Nat) : Int)) c25
          refine lv_iinc (pc := 28) (v := nI (zs (fun j => zB (¬ oP P (prv L j) = oP P ((L j : Nat) : Int))) k + 1)) (lv' := [(1, .int (nI (zs (fun j => zB (¬ oP P (prv L j) = oP P ((L j : Nat) : Int))) k + 1))), (0, .ref d), (2, .int (zI (prv L k))), (3, .int (nI k))]) S.1 S.2.1 dX1_countPenChanges_28 hl (k := 1) rfl (n_add _ _) (by decide) rfl (fun ls hl => ?_)
          refine lv_aload_n (pc := 31) S.1 S.2.1 dX1_countPenChanges_31 rfl (lv_at hl 1 rfl) ?_
          refine zz_get (pc := 32) S hG iX1 0 rfl rfl 4 (by decide) wd_42 rfl rfl dX1_countPenChanges_32 ?_
          refine lv_iload_n (pc := 35) S.1 S.2.1 dX1_countPenChanges_35 rfl (lv_at hl 3 rfl) ?_
          refine zz_iald (pc := 36) (k := k) S hG 4 rfl (by omega) dX1_countPenChanges_36 ?_
          have g5 := hLf k (by omega)
          refine lv_istore_n (pc := 37) (lv' := [(2, .int (nI (L k))), (1, .int (nI (zs (fun j => zB (¬ oP P (prv L j) = oP P ((L j : Nat) : Int))) k + 1))), (0, .ref d), (3, .int (nI k))]) S.1 S.2.1 dX1_countPenChanges_37 rfl hl (by decide) rfl (fun ls hl => ?_)
          refine lv_iinc (pc := 38) (v := nI (k + 1)) (lv' := [(3, .int (nI (k + 1))), (2, .int (nI (L k))), (1, .int (nI (zs (fun j => zB (¬ oP P (prv L j) = oP P ((L j : Nat) : Int))) k + 1))), (0, .ref d)]) S.1 S.2.1 dX1_countPenChanges_38 hl (k := 3) rfl (n_add _ _) (by decide) rfl (fun ls hl => ?_)
          refine lv_goto (pc := 41) (tgt := 6) S.1 S.2.1 dX1_countPenChanges_41 (by decide) ?_
          exact ih2 (k + 1) (by omega) (by omega) ls (by rw [w1]; exact lv_sub hl [3, 2, 1, 0] rfl)
  exact L1 (n - 0 + 1) 0 (by omega) (Nat.lt_succ_self _) ls (lv_sub hl [3, 2, 1, 0] rfl)
abbrev wm_X1_countRuns : List Cond := .code yX1_countRuns cX1_countRuns 3 (some .int) :: wU
theorem q_X1_countRuns : yX1_countRuns.cls = RX1 ∧ yX1_countRuns.cls ≠ "java/lang/invoke/MethodHandle" ∧ yX1_countRuns.cls ≠ "java/lang/invoke/VarHandle" ∧ (parseMethodDescriptor yX1_countRuns.desc).map (fun d => d.parameters.length) = some 0 := by decide +kernel
set_option maxHeartbeats 4000000 in
set_option maxRecDepth 100000 in
theorem c_X1_countRuns (l : Launch) (D : va_G) (cI cR : ClassId) (d e1 e2 e3 e4 n : Nat) (P X Y L : Nat → Nat) (hok : zOk n P X Y L) : Met l yX1_countRuns wm_X1_countRuns ({ frames := 4, cells := 0, slots := 0, locals := 87 } : Room) (va_Pc [.ref d] (zW D cI cR [(d, .inr (1, [.int (nI n), .ref e1, .ref e2, .ref e3, .ref e4])), (e1, zA cI 8 P), (e2, zA cI 16 X), (e3, zA cI 16 Y), (e4, zA cI 8 L)])) (vp_Si (fun r => r = nI (rnk n P X Y L n))) 0 0 (fun _ => False) := by
  refine Met.ofW (cc := cX1_countRuns) (maxL := 3) (ret := (some .int)) (by decide) rfl ?_
  intro p e s m args below meth c s₁ B hml hv
  obtain ⟨rfl, hG⟩ := hv
  have S : CallFix p m c cX1_countRuns 3 s ([.ref d] : List Value).toArray wU RX1 := ⟨B.exec, B.bytes, hml, findClass_of_methodNamed B.named, fun w h => atoms_spec (ws := wm_X1_countRuns) B.pre w (List.mem_cons_of_mem _ h)⟩
  have hr := B.returns
  have hlocks := B.notSynchronized
  have hG : zG D cI cR [(d, .inr (1, [.int (nI n), .ref e1, .ref e2, .ref e3, .ref e4])), (e1, zA cI 8 P), (e2, zA cI 16 X), (e3, zA cI 16 Y), (e4, zA cI 8 L)] s s.heap := hG
  have hl := lv_entry ([.ref d]) (n := 3) (Nat.le_of_ble_eq_true rfl)
  rw [lg_entry_eq]
  generalize (lg_sl ([.ref d]) ++ List.replicate (3 - (lg_sl ([.ref d])).length) Slot.unset).toArray = ls at hl ⊢
  have hl : lv_has ls 3 [(0, .ref d)] := hl
  obtain ⟨hn, hPf, hXY, hLf, hinj⟩ := id hok
  refine zz_iconst (pc := 0) (v := nI 0) S dX1_countRuns_0 rfl ?_
  refine lv_istore_n (pc := 1) (lv' := [(1, .int (nI 0)), (0, .ref d)]) S.1 S.2.1 dX1_countRuns_1 rfl hl (by decide) rfl (fun ls hl => ?_)
  refine zz_iconst (pc := 2) (v := nI 0) S dX1_countRuns_2 rfl ?_
  refine lv_istore_n (pc := 3) (lv' := [(2, .int (nI 0)), (1, .int (nI 0)), (0, .ref d)]) S.1 S.2.1 dX1_countRuns_3 rfl hl (by decide) rfl (fun ls hl => ?_)
  have L1 : ∀ (f : Nat) (k : Nat), (k ≤ n) → n - k < f → ∀ ls : Array Slot, lv_has ls 3 [(0, .ref d), (1, .int (nI (rnk n P X Y L k))), (2, .int (nI k))] → W p l e (headSpec wm_X1_countRuns ({ frames := 4, cells := 0, slots := 0, locals := 87 } : Room)).room s m ([.ref d] : List Value).toArray below meth c s.heap [] 0 0 (MQ below (vp_Si (fun r => r = nI (rnk n P X Y L n))) ([.ref d] : List Value).toArray s 0 0 (fun _ => False)) (F0 m 4 ls []) := by
    intro f
    induction f with
    | zero => intro k hk hf; exact absurd hf (Nat.not_lt_zero _)
    | succ f ih2 =>
      intro k hk hf ls hl
      refine lv_iload_n (pc := 4) S.1 S.2.1 dX1_countRuns_4 rfl (lv_at hl 2 rfl) ?_
      refine lv_aload_n (pc := 5) S.1 S.2.1 dX1_countRuns_5 rfl (lv_at hl 0 rfl) ?_
      refine zz_get (pc := 6) S hG iX1 0 rfl rfl 0 (by decide) wd_93 rfl rfl dX1_countRuns_6 ?_
      refine zz_icmp_ge (pc := 9) (tgt := 29) S dX1_countRuns_9 (by decide) (n_le (by omega) (by omega)) (fun c9 => ?_) (fun c9 => ?_)
      · refine lv_iload_n (pc := 29) S.1 S.2.1 dX1_countRuns_29 rfl (lv_at hl 1 rfl) ?_
        exact zz_iretS (pc := 30) S hr hlocks (congrArg nI (by rw [show k = n by omega])) dX1_countRuns_30
      · refine lv_aload_n (pc := 12) S.1 S.2.1 dX1_countRuns_12 rfl (lv_at hl 0 rfl) ?_
        refine lv_iload_n (pc := 13) S.1 S.2.1 dX1_countRuns_13 rfl (lv_at hl 2 rfl) ?_
        refine zz_callV (pc := 14) (As := [.int (nI k)]) (rest := []) S (c_X1_isLinkedToNext l D cI cR d e1 e2 e3 e4 n P X Y L k hok (by omega)) (zuV wd_463 wd_460 wd_461 wd_462 wd_14) 1 rfl q_X1_isLinkedToNext ⟨⟨rfl, rfl⟩, Nat.le_of_ble_eq_true rfl, Nat.le_of_ble_eq_true rfl⟩ hG [0, 1, 2, 3, 4] rfl 0 rfl rfl rfl rfl rfl (Nat.le_of_ble_eq_true rfl) hl.1 ⟨Nat.zero_le _, Nat.zero_le _⟩ dX1_countRuns_14 ?_
        refine zz_ifb_ne (pc := 17) (tgt := 23) S dX1_countRuns_17 (by decide) (fun c17 => ?_) (fun c17 => ?_)
        · have w1 := rnk_t c17
          refine lv_iinc (pc := 23) (v := nI (k + 1)) (lv' := [(2, .int (nI (k + 1))), (0, .ref d), (1, .int (nI (rnk n P X Y L k)))]) S.1 S.2.1 dX1_countRuns_23 hl (k := 2) rfl (n_add _ _) (by decide) rfl (fun ls hl => ?_)
          refine lv_goto (pc := 26) (tgt := 4) S.1 S.2.1 dX1_countRuns_26 (by decide) ?_
          exact ih2 (k + 1) (by omega) (by omega) ls (by rw [w1]; exact lv_sub hl [1, 2, 0] rfl)
        · have w1 := rnk_f c17
          refine lv_iinc (pc := 20) (v := nI (rnk n P X Y L k + 1)) (lv' := [(1, .int (nI (rnk n P X Y L k + 1))), (0, .ref d), (2, .int (nI k))]) S.1 S.2.1 dX1_countRuns_20 hl (k := 1) rfl (n_add _ _) (by decide) rfl (fun ls hl => ?_)
          refine lv_iinc (pc := 23) (v := nI (k + 1)) (lv' := [(2, .int (nI (k + 1))), (1, .int (nI (rnk n P X Y L k + 1))), (0, .ref d)]) S.1 S.2.1 dX1_countRuns_23 hl (k := 2) rfl (n_add _ _) (by decide) rfl (fun ls hl => ?_)
          refine lv_goto (pc := 26) (tgt := 4) S.1 S.2.1 dX1_countRuns_26 (by decide) ?_
          exact ih2 (k + 1) (by omega) (by omega) ls (by rw [w1]; exact lv_sub hl [2, 1, 0] rfl)
  exact L1 (n - 0 + 1) 0 (by omega) (Nat.lt_succ_self _) ls (lv_sub hl [2, 1, 0] rfl)
abbrev wm_X1_lengthOfRun : List Cond := .code yX1_lengthOfRun cX1_lengthOfRun 5 (some .int) :: wU
theorem q_X1_lengthOfRun : yX1_lengthOfRun.cls = RX1 ∧ yX1_lengthOfRun.cls ≠ "java/lang/invoke/MethodHandle" ∧ yX1_lengthOfRun.cls ≠ "java/lang/invoke/VarHandle" ∧ (parseMethodDescriptor yX1_lengthOfRun.desc).map (fun d => d.parameters.length) = some 1 := by decide +kernel
set_option maxHeartbeats 4000000 in
set_option maxRecDepth 100000 in
theorem c_X1_lengthOfRun (l : Launch) (D : va_G) (cI cR : ClassId) (d e1 e2 e3 e4 n : Nat) (P X Y L : Nat → Nat) (a : Int) (hok : zOk n P X Y L) (ha : zR a) : Met l yX1_lengthOfRun wm_X1_lengthOfRun ({ frames := 4, cells := 0, slots := 0, locals := 87 } : Room) (va_Pc [.ref d, .int (zI a)] (zW D cI cR [(d, .inr (1, [.int (nI n), .ref e1, .ref e2, .ref e3, .ref e4])), (e1, zA cI 8 P), (e2, zA cI 16 X), (e3, zA cI 16 Y), (e4, zA cI 8 L)])) (vp_Si (fun r => r = nI (zs (fun j => zB (((rnk n P X Y L j : Nat) : Int) = a)) n))) 0 0 (fun _ => False) := by
  refine Met.ofW (cc := cX1_lengthOfRun) (maxL := 5) (ret := (some .int)) (by decide) rfl ?_
  intro p e s m args below meth c s₁ B hml hv
  obtain ⟨rfl, hG⟩ := hv
  have S : CallFix p m c cX1_lengthOfRun 5 s ([.ref d, .int (zI a)] : List Value).toArray wU RX1 := ⟨B.exec, B.bytes, hml, findClass_of_methodNamed B.named, fun w h => atoms_spec (ws := wm_X1_lengthOfRun) B.pre w (List.mem_cons_of_mem _ h)⟩
  have hr := B.returns
  have hlocks := B.notSynchronized
  have hG : zG D cI cR [(d, .inr (1, [.int (nI n), .ref e1, .ref e2, .ref e3, .ref e4])), (e1, zA cI 8 P), (e2, zA cI 16 X), (e3, zA cI 16 Y), (e4, zA cI 8 L)] s s.heap := hG
  have hl := lv_entry ([.ref d, .int (zI a)]) (n := 5) (Nat.le_of_ble_eq_true rfl)
  rw [lg_entry_eq]
  generalize (lg_sl ([.ref d, .int (zI a)]) ++ List.replicate (5 - (lg_sl ([.ref d, .int (zI a)])).length) Slot.unset).toArray = ls at hl ⊢
  have hl : lv_has ls 5 [(0, .ref d), (1, .int (zI a))] := hl
  have r_ha := id ha
  unfold zR at r_ha
  obtain ⟨hn, hPf, hXY, hLf, hinj⟩ := id hok
  refine zz_iconst (pc := 0) (v := nI 0) S dX1_lengthOfRun_0 rfl ?_
  refine lv_istore_n (pc := 1) (lv' := [(2, .int (nI 0)), (0, .ref d), (1, .int (zI a))]) S.1 S.2.1 dX1_lengthOfRun_1 rfl hl (by decide) rfl (fun ls hl => ?_)
  refine zz_iconst (pc := 2) (v := nI 0) S dX1_lengthOfRun_2 rfl ?_
  refine lv_istore_n (pc := 3) (lv' := [(3, .int (nI 0)), (2, .int (nI 0)), (0, .ref d), (1, .int (zI a))]) S.1 S.2.1 dX1_lengthOfRun_3 rfl hl (by decide) rfl (fun ls hl => ?_)
  refine zz_iconst (pc := 4) (v := nI 0) S dX1_lengthOfRun_4 rfl ?_
  refine lv_istore (pc := 5) (lv' := [(4, .int (nI 0)), (3, .int (nI 0)), (2, .int (nI 0)), (0, .ref d), (1, .int (zI a))]) S.1 S.2.1 dX1_lengthOfRun_5 hl (by decide) rfl (fun ls hl => ?_)
  have L1 : ∀ (f : Nat) (k : Nat), (k ≤ n) → n - k < f → ∀ ls : Array Slot, lv_has ls 5 [(0, .ref d), (1, .int (zI a)), (2, .int (nI (rnk n P X Y L k))), (3, .int (nI (zs (fun j => zB (((rnk n P X Y L j : Nat) : Int) = a)) k))), (4, .int (nI k))] → W p l e (headSpec wm_X1_lengthOfRun ({ frames := 4, cells := 0, slots := 0, locals := 87 } : Room)).room s m ([.ref d, .int (zI a)] : List Value).toArray below meth c s.heap [] 0 0 (MQ below (vp_Si (fun r => r = nI (zs (fun j => zB (((rnk n P X Y L j : Nat) : Int) = a)) n))) ([.ref d, .int (zI a)] : List Value).toArray s 0 0 (fun _ => False)) (F0 m 7 ls []) := by
    intro f
    induction f with
    | zero => intro k hk hf; exact absurd hf (Nat.not_lt_zero _)
    | succ f ih2 =>
      intro k hk hf ls hl
      have hp := rnk_le n P X Y L k
      refine lv_iload (pc := 7) S.1 S.2.1 dX1_lengthOfRun_7 (lv_at hl 4 rfl) ?_
      refine lv_aload_n (pc := 9) S.1 S.2.1 dX1_lengthOfRun_9 rfl (lv_at hl 0 rfl) ?_
      refine zz_get (pc := 10) S hG iX1 0 rfl rfl 0 (by decide) wd_93 rfl rfl dX1_lengthOfRun_10 ?_
      refine zz_icmp_ge (pc := 13) (tgt := 42) S dX1_lengthOfRun_13 (by decide) (n_le (by omega) (by omega)) (fun c13 => ?_) (fun c13 => ?_)
      · refine lv_iload_n (pc := 42) S.1 S.2.1 dX1_lengthOfRun_42 rfl (lv_at hl 3 rfl) ?_
        exact zz_iretS (pc := 43) S hr hlocks (congrArg nI (by rw [show k = n by omega])) dX1_lengthOfRun_43
      · refine lv_iload_n (pc := 16) S.1 S.2.1 dX1_lengthOfRun_16 rfl (lv_at hl 2 rfl) ?_
        refine lv_iload_n (pc := 17) S.1 S.2.1 dX1_lengthOfRun_17 rfl (lv_at hl 1 rfl) ?_
        refine zz_icmp_ne (pc := 18) (tgt := 24) S dX1_lengthOfRun_18 (by decide) (zI_eq (a := ((rnk n P X Y L k : Nat) : Int)) (b := a) (by unfold zR; omega) (by unfold zR; omega)) (fun c18 => ?_) (fun c18 => ?_)
        · have w1 : zs (fun j => zB (((rnk n P X Y L j : Nat) : Int) = a)) (k + 1) = zs (fun j => zB (((rnk n P X Y L j : Nat) : Int) = a)) k := zs_f (P := fun j => ((rnk n P X Y L j : Nat) : Int) = a) c18
          refine lv_aload_n (pc := 24) S.1 S.2.1 dX1_lengthOfRun_24 rfl (lv_at hl 0 rfl) ?_
          refine lv_iload (pc := 25) S.1 S.2.1 dX1_lengthOfRun_25 (lv_at hl 4 rfl) ?_
          refine zz_callV (pc := 27) (As := [.int (nI k)]) (rest := []) S (c_X1_isLinkedToNext l D cI cR d e1 e2 e3 e4 n P X Y L k hok (by omega)) (zuV wd_463 wd_460 wd_461 wd_462 wd_14) 1 rfl q_X1_isLinkedToNext ⟨⟨rfl, rfl⟩, Nat.le_of_ble_eq_true rfl, Nat.le_of_ble_eq_true rfl⟩ hG [0, 1, 2, 3, 4] rfl 0 rfl rfl rfl rfl rfl (Nat.le_of_ble_eq_true rfl) hl.1 ⟨Nat.zero_le _, Nat.zero_le _⟩ dX1_lengthOfRun_27 ?_
          refine zz_ifb_ne (pc := 30) (tgt := 36) S dX1_lengthOfRun_30 (by decide) (fun c30 => ?_) (fun c30 => ?_)
          · have w2 := rnk_t c30
            refine lv_iinc (pc := 36) (v := nI (k + 1)) (lv' := [(4, .int (nI (k + 1))), (0, .ref d), (1, .int (zI a)), (2, .int (nI (rnk n P X Y L k))), (3, .int (nI (zs (fun j => zB (((rnk n P X Y L j : Nat) : Int) = a)) k)))]) S.1 S.2.1 dX1_lengthOfRun_36 hl (k := 4) rfl (n_add _ _) (by decide) rfl (fun ls hl => ?_)
            refine lv_goto (pc := 39) (tgt := 7) S.1 S.2.1 dX1_lengthOfRun_39 (by decide) ?_
            exact ih2 (k + 1) (by omega) (by omega) ls (by rw [w1, w2]; exact lv_sub hl [1, 2, 3, 4, 0] rfl)
          · have w2 := rnk_f c30
            refine lv_iinc (pc := 33) (v := nI (rnk n P X Y L k + 1)) (lv' := [(2, .int (nI (rnk n P X Y L k + 1))), (0, .ref d), (1, .int (zI a)), (3, .int (nI (zs (fun j => zB (((rnk n P X Y L j : Nat) : Int) = a)) k))), (4, .int (nI k))]) S.1 S.2.1 dX1_lengthOfRun_33 hl (k := 2) rfl (n_add _ _) (by decide) rfl (fun ls hl => ?_)
            refine lv_iinc (pc := 36) (v := nI (k + 1)) (lv' := [(4, .int (nI (k + 1))), (2, .int (nI (rnk n P X Y L k + 1))), (0, .ref d), (1, .int (zI a)), (3, .int (nI (zs (fun j => zB (((rnk n P X Y L j : Nat) : Int) = a)) k)))]) S.1 S.2.1 dX1_lengthOfRun_36 hl (k := 4) rfl (n_add _ _) (by decide) rfl (fun ls hl => ?_)
            refine lv_goto (pc := 39) (tgt := 7) S.1 S.2.1 dX1_lengthOfRun_39 (by decide) ?_
            exact ih2 (k + 1) (by omega) (by omega) ls (by rw [w1, w2]; exact lv_sub hl [2, 3, 1, 4, 0] rfl)
        · have w1 : zs (fun j => zB (((rnk n P X Y L j : Nat) : Int) = a)) (k + 1) = zs (fun j => zB (((rnk n P X Y L j : Nat) : Int) = a)) k + 1 := zs_t (P := fun j => ((rnk n P X Y L j : Nat) : Int) = a) c18
          refine lv_iinc (pc := 21) (v := nI (zs (fun j => zB (((rnk n P X Y L j : Nat) : Int) = a)) k + 1)) (lv' := [(3, .int (nI (zs (fun j => zB (((rnk n P X Y L j : Nat) : Int) = a)) k + 1))), (0, .ref d), (1, .int (zI a)), (2, .int (nI (rnk n P X Y L k))), (4, .int (nI k))]) S.1 S.2.1 dX1_lengthOfRun_21 hl (k := 3) rfl (n_add _ _) (by decide) rfl (fun ls hl => ?_)
          refine lv_aload_n (pc := 24) S.1 S.2.1 dX1_lengthOfRun_24 rfl (lv_at hl 1 rfl) ?_
          refine lv_iload (pc := 25) S.1 S.2.1 dX1_lengthOfRun_25 (lv_at hl 4 rfl) ?_
          refine zz_callV (pc := 27) (As := [.int (nI k)]) (rest := []) S (c_X1_isLinkedToNext l D cI cR d e1 e2 e3 e4 n P X Y L k hok (by omega)) (zuV wd_463 wd_460 wd_461 wd_462 wd_14) 1 rfl q_X1_isLinkedToNext ⟨⟨rfl, rfl⟩, Nat.le_of_ble_eq_true rfl, Nat.le_of_ble_eq_true rfl⟩ hG [0, 1, 2, 3, 4] rfl 0 rfl rfl rfl rfl rfl (Nat.le_of_ble_eq_true rfl) hl.1 ⟨Nat.zero_le _, Nat.zero_le _⟩ dX1_lengthOfRun_27 ?_
          refine zz_ifb_ne (pc := 30) (tgt := 36) S dX1_lengthOfRun_30 (by decide) (fun c30 => ?_) (fun c30 => ?_)
          · have w2 := rnk_t c30
            refine lv_iinc (pc := 36) (v := nI (k + 1)) (lv' := [(4, .int (nI (k + 1))), (3, .int (nI (zs (fun j => zB (((rnk n P X Y L j : Nat) : Int) = a)) k + 1))), (0, .ref d), (1, .int (zI a)), (2, .int (nI (rnk n P X Y L k)))]) S.1 S.2.1 dX1_lengthOfRun_36 hl (k := 4) rfl (n_add _ _) (by decide) rfl (fun ls hl => ?_)
            refine lv_goto (pc := 39) (tgt := 7) S.1 S.2.1 dX1_lengthOfRun_39 (by decide) ?_
            exact ih2 (k + 1) (by omega) (by omega) ls (by rw [w1, w2]; exact lv_sub hl [2, 3, 4, 1, 0] rfl)
          · have w2 := rnk_f c30
            refine lv_iinc (pc := 33) (v := nI (rnk n P X Y L k + 1)) (lv' := [(2, .int (nI (rnk n P X Y L k + 1))), (3, .int (nI (zs (fun j => zB (((rnk n P X Y L j : Nat) : Int) = a)) k + 1))), (0, .ref d), (1, .int (zI a)), (4, .int (nI k))]) S.1 S.2.1 dX1_lengthOfRun_33 hl (k := 3) rfl (n_add _ _) (by decide) rfl (fun ls hl => ?_)
            refine lv_iinc (pc := 36) (v := nI (k + 1)) (lv' := [(4, .int (nI (k + 1))), (2, .int (nI (rnk n P X Y L k + 1))), (3, .int (nI (zs (fun j => zB (((rnk n P X Y L j : Nat) : Int) = a)) k + 1))), (0, .ref d), (1, .int (zI a))]) S.1 S.2.1 dX1_lengthOfRun_36 hl (k := 4) rfl (n_add _ _) (by decide) rfl (fun ls hl => ?_)
            refine lv_goto (pc := 39) (tgt := 7) S.1 S.2.1 dX1_lengthOfRun_39 (by decide) ?_
            exact ih2 (k + 1) (by omega) (by omega) ls (by rw [w1, w2]; exact lv_sub hl [3, 4, 1, 2, 0] rfl)
  exact L1 (n - 0 + 1) 0 (by omega) (Nat.lt_succ_self _) ls (lv_sub hl [3, 4, 2, 1, 0] rfl)
abbrev wm_X1_lowestAlike : List Cond := .code yX1_lowestAlike cX1_lowestAlike 3 (some .int) :: wU
theorem q_X1_lowestAlike : yX1_lowestAlike.cls = RX1 ∧ yX1_lowestAlike.cls ≠ "java/lang/invoke/MethodHandle" ∧ yX1_lowestAlike.cls ≠ "java/lang/invoke/VarHandle" ∧ (parseMethodDescriptor yX1_lowestAlike.desc).map (fun d => d.parameters.length) = some 1 := by decide +kernel
set_option maxHeartbeats 4000000 in
set_option maxRecDepth 100000 in
theorem c_X1_lowestAlike (l : Launch) (D : va_G) (cI cR : ClassId) (d e1 e2 e3 e4 n : Nat) (P X Y L : Nat → Nat) (a : Nat) (hok : zOk n P X Y L) (ha : a < n) : Met l yX1_lowestAlike wm_X1_lowestAlike ({ frames := 4, cells := 0, slots := 0, locals := 88 } : Room) (va_Pc [.ref d, .int (nI a)] (zW D cI cR [(d, .inr (1, [.int (nI n), .ref e1, .ref e2, .ref e3, .ref e4])), (e1, zA cI 8 P), (e2, zA cI 16 X), (e3, zA cI 16 Y), (e4, zA cI 8 L)])) (vp_Si (fun r => r = zI (ffn (fun j => ¬ j = a ∧ alk P X Y a j) n 0))) 0 0 (fun _ => False) := by
  refine Met.ofW (cc := cX1_lowestAlike) (maxL := 3) (ret := (some .int)) (by decide) rfl ?_
  intro p e s m args below meth c s₁ B hml hv
  obtain ⟨rfl, hG⟩ := hv
  have S : CallFix p m c cX1_lowestAlike 3 s ([.ref d, .int (nI a)] : List Value).toArray wU RX1 := ⟨B.exec, B.bytes, hml, findClass_of_methodNamed B.named, fun w h => atoms_spec (ws := wm_X1_lowestAlike) B.pre w (List.mem_cons_of_mem _ h)⟩
  have hr := B.returns
  have hlocks := B.notSynchronized
  have hG : zG D cI cR [(d, .inr (1, [.int (nI n), .ref e1, .ref e2, .ref e3, .ref e4])), (e1, zA cI 8 P), (e2, zA cI 16 X), (e3, zA cI 16 Y), (e4, zA cI 8 L)] s s.heap := hG
  have hl := lv_entry ([.ref d, .int (nI a)]) (n := 3) (Nat.le_of_ble_eq_true rfl)
  rw [lg_entry_eq]
  generalize (lg_sl ([.ref d, .int (nI a)]) ++ List.replicate (3 - (lg_sl ([.ref d, .int (nI a)])).length) Slot.unset).toArray = ls at hl ⊢
  have hl : lv_has ls 3 [(0, .ref d), (1, .int (nI a))] := hl
  obtain ⟨hn, hPf, hXY, hLf, hinj⟩ := id hok
  refine zz_iconst (pc := 0) (v := nI 0) S dX1_lowestAlike_0 rfl ?_
  refine lv_istore_n (pc := 1) (lv' := [(2, .int (nI 0)), (0, .ref d), (1, .int (nI a))]) S.1 S.2.1 dX1_lowestAlike_1 rfl hl (by decide) rfl (fun ls hl => ?_)
  have L1 : ∀ (f : Nat) (k : Nat), (k ≤ n) → (ffn (fun j => ¬ j = a ∧ alk P X Y a j) n 0 = ffn (fun j => ¬ j = a ∧ alk P X Y a j) (n - k) k) → n - k < f → ∀ ls : Array Slot, lv_has ls 3 [(0, .ref d), (1, .int (nI a)), (2, .int (nI k))] → W p l e (headSpec wm_X1_lowestAlike ({ frames := 4, cells := 0, slots := 0, locals := 88 } : Room)).room s m ([.ref d, .int (nI a)] : List Value).toArray below meth c s.heap [] 0 0 (MQ below (vp_Si (fun r => r = zI (ffn (fun j => ¬ j = a ∧ alk P X Y a j) n 0))) ([.ref d, .int (nI a)] : List Value).toArray s 0 0 (fun _ => False)) (F0 m 2 ls []) := by
    intro f
    induction f with
    | zero => intro k hk he hf; exact absurd hf (Nat.not_lt_zero _)
    | succ f ih2 =>
      intro k hk he hf ls hl
      refine lv_iload_n (pc := 2) S.1 S.2.1 dX1_lowestAlike_2 rfl (lv_at hl 2 rfl) ?_
      refine lv_aload_n (pc := 3) S.1 S.2.1 dX1_lowestAlike_3 rfl (lv_at hl 0 rfl) ?_
      refine zz_get (pc := 4) S hG iX1 0 rfl rfl 0 (by decide) wd_93 rfl rfl dX1_lowestAlike_4 ?_
      refine zz_icmp_ge (pc := 7) (tgt := 32) S dX1_lowestAlike_7 (by decide) (n_le (by omega) (by omega)) (fun c7 => ?_) (fun c7 => ?_)
      · refine zz_bipush (pc := 32) (v := zI (-3)) S dX1_lowestAlike_32 rfl ?_
        exact zz_iretS (pc := 34) S hr hlocks (congrArg zI (a₁ := (-3)) (by first | exact (he.trans (ffn_e (by omega))).symm | exact (he.trans (ffn_t (by omega) ⟨by assumption, by assumption⟩)).symm)) dX1_lowestAlike_34
      · refine lv_iload_n (pc := 10) S.1 S.2.1 dX1_lowestAlike_10 rfl (lv_at hl 2 rfl) ?_
        refine lv_iload_n (pc := 11) S.1 S.2.1 dX1_lowestAlike_11 rfl (lv_at hl 1 rfl) ?_
        refine zz_icmp_eq (pc := 12) (tgt := 26) S dX1_lowestAlike_12 (by decide) (n_eq (by omega) (by omega)) (fun c12 => ?_) (fun c12 => ?_)
        · refine lv_iinc (pc := 26) (v := nI (k + 1)) (lv' := [(2, .int (nI (k + 1))), (0, .ref d), (1, .int (nI a))]) S.1 S.2.1 dX1_lowestAlike_26 hl (k := 2) rfl (n_add _ _) (by decide) rfl (fun ls hl => ?_)
          refine lv_goto (pc := 29) (tgt := 2) S.1 S.2.1 dX1_lowestAlike_29 (by decide) ?_
          exact ih2 (k + 1) (by omega) (by exact he.trans (ffn_f (by omega) (by first | omega | (intro q; exact absurd q.2 (by assumption))))) (by omega) ls (lv_sub hl [1, 2, 0] rfl)
        · refine lv_aload_n (pc := 15) S.1 S.2.1 dX1_lowestAlike_15 rfl (lv_at hl 0 rfl) ?_
          refine lv_iload_n (pc := 16) S.1 S.2.1 dX1_lowestAlike_16 rfl (lv_at hl 1 rfl) ?_
          refine lv_iload_n (pc := 17) S.1 S.2.1 dX1_lowestAlike_17 rfl (lv_at hl 2 rfl) ?_
          refine zz_callV (pc := 18) (As := [.int (nI a), .int (nI k)]) (rest := []) S (c_X1_areAlike l D cI cR d e1 e2 e3 e4 n P X Y L a k hok (by omega) (by omega)) (zuV wd_205 wd_202 wd_203 wd_204 wd_14) 2 rfl q_X1_areAlike ⟨⟨rfl, rfl⟩, Nat.le_of_ble_eq_true rfl, Nat.le_of_ble_eq_true rfl⟩ hG [0, 1, 2, 3, 4] rfl 0 rfl rfl rfl rfl rfl (Nat.le_of_ble_eq_true rfl) hl.1 ⟨Nat.zero_le _, Nat.zero_le _⟩ dX1_lowestAlike_18 ?_
          refine zz_ifb_eq (pc := 21) (tgt := 26) S dX1_lowestAlike_21 (by decide) (fun c21 => ?_) (fun c21 => ?_)
          · refine lv_iinc (pc := 26) (v := nI (k + 1)) (lv' := [(2, .int (nI (k + 1))), (0, .ref d), (1, .int (nI a))]) S.1 S.2.1 dX1_lowestAlike_26 hl (k := 2) rfl (n_add _ _) (by decide) rfl (fun ls hl => ?_)
            refine lv_goto (pc := 29) (tgt := 2) S.1 S.2.1 dX1_lowestAlike_29 (by decide) ?_
            exact ih2 (k + 1) (by omega) (by exact he.trans (ffn_f (by omega) (by first | omega | (intro q; exact absurd q.2 (by assumption))))) (by omega) ls (lv_sub hl [1, 2, 0] rfl)
          · refine lv_iload_n (pc := 24) S.1 S.2.1 dX1_lowestAlike_24 rfl (lv_at hl 2 rfl) ?_
            exact zz_iretS (pc := 25) S hr hlocks (congrArg zI (a₁ := ((k : Nat) : Int)) (by first | exact (he.trans (ffn_e (by omega))).symm | exact (he.trans (ffn_t (by omega) ⟨by assumption, by assumption⟩)).symm)) dX1_lowestAlike_25
  exact L1 (n - 0 + 1) 0 (by omega) (by rfl) (Nat.lt_succ_self _) ls (lv_sub hl [1, 2, 0] rfl)
abbrev wm_X1_lowestCover : List Cond := .code yX1_lowestCover cX1_lowestCover 3 (some .int) :: wU
theorem q_X1_lowestCover : yX1_lowestCover.cls = RX1 ∧ yX1_lowestCover.cls ≠ "java/lang/invoke/MethodHandle" ∧ yX1_lowestCover.cls ≠ "java/lang/invoke/VarHandle" ∧ (parseMethodDescriptor yX1_lowestCover.desc).map (fun d => d.parameters.length) = some 1 := by decide +kernel
set_option maxHeartbeats 4000000 in
set_option maxRecDepth 100000 in
theorem c_X1_lowestCover (l : Launch) (D : va_G) (cI cR : ClassId) (d e1 e2 e3 e4 n : Nat) (P X Y L : Nat → Nat) (a : Nat) (hok : zOk n P X Y L) (ha : a < n) : Met l yX1_lowestCover wm_X1_lowestCover ({ frames := 5, cells := 0, slots := 0, locals := 110 } : Room) (va_Pc [.ref d, .int (nI a)] (zW D cI cR [(d, .inr (1, [.int (nI n), .ref e1, .ref e2, .ref e3, .ref e4])), (e1, zA cI 8 P), (e2, zA cI 16 X), (e3, zA cI 16 Y), (e4, zA cI 8 L)])) (vp_Si (fun r => r = zI (ffn (fun j => cov P X Y j a) n 0))) 0 0 (fun _ => False) := by
  refine Met.ofW (cc := cX1_lowestCover) (maxL := 3) (ret := (some .int)) (by decide) rfl ?_
  intro p e s m args below meth c s₁ B hml hv
  obtain ⟨rfl, hG⟩ := hv
  have S : CallFix p m c cX1_lowestCover 3 s ([.ref d, .int (nI a)] : List Value).toArray wU RX1 := ⟨B.exec, B.bytes, hml, findClass_of_methodNamed B.named, fun w h => atoms_spec (ws := wm_X1_lowestCover) B.pre w (List.mem_cons_of_mem _ h)⟩
  have hr := B.returns
  have hlocks := B.notSynchronized
  have hG : zG D cI cR [(d, .inr (1, [.int (nI n), .ref e1, .ref e2, .ref e3, .ref e4])), (e1, zA cI 8 P), (e2, zA cI 16 X), (e3, zA cI 16 Y), (e4, zA cI 8 L)] s s.heap := hG
  have hl := lv_entry ([.ref d, .int (nI a)]) (n := 3) (Nat.le_of_ble_eq_true rfl)
  rw [lg_entry_eq]
  generalize (lg_sl ([.ref d, .int (nI a)]) ++ List.replicate (3 - (lg_sl ([.ref d, .int (nI a)])).length) Slot.unset).toArray = ls at hl ⊢
  have hl : lv_has ls 3 [(0, .ref d), (1, .int (nI a))] := hl
  obtain ⟨hn, hPf, hXY, hLf, hinj⟩ := id hok
  refine zz_iconst (pc := 0) (v := nI 0) S dX1_lowestCover_0 rfl ?_
  refine lv_istore_n (pc := 1) (lv' := [(2, .int (nI 0)), (0, .ref d), (1, .int (nI a))]) S.1 S.2.1 dX1_lowestCover_1 rfl hl (by decide) rfl (fun ls hl => ?_)
  have L1 : ∀ (f : Nat) (k : Nat), (k ≤ n) → (ffn (fun j => cov P X Y j a) n 0 = ffn (fun j => cov P X Y j a) (n - k) k) → n - k < f → ∀ ls : Array Slot, lv_has ls 3 [(0, .ref d), (1, .int (nI a)), (2, .int (nI k))] → W p l e (headSpec wm_X1_lowestCover ({ frames := 5, cells := 0, slots := 0, locals := 110 } : Room)).room s m ([.ref d, .int (nI a)] : List Value).toArray below meth c s.heap [] 0 0 (MQ below (vp_Si (fun r => r = zI (ffn (fun j => cov P X Y j a) n 0))) ([.ref d, .int (nI a)] : List Value).toArray s 0 0 (fun _ => False)) (F0 m 2 ls []) := by
    intro f
    induction f with
    | zero => intro k hk he hf; exact absurd hf (Nat.not_lt_zero _)
    | succ f ih2 =>
      intro k hk he hf ls hl
      refine lv_iload_n (pc := 2) S.1 S.2.1 dX1_lowestCover_2 rfl (lv_at hl 2 rfl) ?_
      refine lv_aload_n (pc := 3) S.1 S.2.1 dX1_lowestCover_3 rfl (lv_at hl 0 rfl) ?_
      refine zz_get (pc := 4) S hG iX1 0 rfl rfl 0 (by decide) wd_93 rfl rfl dX1_lowestCover_4 ?_
      refine zz_icmp_ge (pc := 7) (tgt := 27) S dX1_lowestCover_7 (by decide) (n_le (by omega) (by omega)) (fun c7 => ?_) (fun c7 => ?_)
      · refine zz_bipush (pc := 27) (v := zI (-3)) S dX1_lowestCover_27 rfl ?_
        exact zz_iretS (pc := 29) S hr hlocks (congrArg zI (a₁ := (-3)) (by first | exact (he.trans (ffn_e (by omega))).symm | exact (he.trans (ffn_t (by omega) (by assumption))).symm)) dX1_lowestCover_29
      · refine lv_aload_n (pc := 10) S.1 S.2.1 dX1_lowestCover_10 rfl (lv_at hl 0 rfl) ?_
        refine lv_iload_n (pc := 11) S.1 S.2.1 dX1_lowestCover_11 rfl (lv_at hl 2 rfl) ?_
        refine lv_iload_n (pc := 12) S.1 S.2.1 dX1_lowestCover_12 rfl (lv_at hl 1 rfl) ?_
        refine zz_callV (pc := 13) (As := [.int (nI k), .int (nI a)]) (rest := []) S (c_X1_covers l D cI cR d e1 e2 e3 e4 n P X Y L k a hok (by omega) (by omega)) (zuV wd_242 wd_239 wd_240 wd_241 wd_14) 2 rfl q_X1_covers ⟨⟨rfl, rfl⟩, Nat.le_of_ble_eq_true rfl, Nat.le_of_ble_eq_true rfl⟩ hG [0, 1, 2, 3, 4] rfl 0 rfl rfl rfl rfl rfl (Nat.le_of_ble_eq_true rfl) hl.1 ⟨Nat.zero_le _, Nat.zero_le _⟩ dX1_lowestCover_13 ?_
        refine zz_ifb_eq (pc := 16) (tgt := 21) S dX1_lowestCover_16 (by decide) (fun c16 => ?_) (fun c16 => ?_)
        · refine lv_iinc (pc := 21) (v := nI (k + 1)) (lv' := [(2, .int (nI (k + 1))), (0, .ref d), (1, .int (nI a))]) S.1 S.2.1 dX1_lowestCover_21 hl (k := 2) rfl (n_add _ _) (by decide) rfl (fun ls hl => ?_)
          refine lv_goto (pc := 24) (tgt := 2) S.1 S.2.1 dX1_lowestCover_24 (by decide) ?_
          exact ih2 (k + 1) (by omega) (by exact he.trans (ffn_f (by omega) (by assumption))) (by omega) ls (lv_sub hl [1, 2, 0] rfl)
        · refine lv_iload_n (pc := 19) S.1 S.2.1 dX1_lowestCover_19 rfl (lv_at hl 2 rfl) ?_
          exact zz_iretS (pc := 20) S hr hlocks (congrArg zI (a₁ := ((k : Nat) : Int)) (by first | exact (he.trans (ffn_e (by omega))).symm | exact (he.trans (ffn_t (by omega) (by assumption))).symm)) dX1_lowestCover_20
  exact L1 (n - 0 + 1) 0 (by omega) (by rfl) (Nat.lt_succ_self _) ls (lv_sub hl [1, 2, 0] rfl)
abbrev wm_X1_nearestCode : List Cond := .code yX1_nearestCode cX1_nearestCode 8 (some .int) :: wU
theorem q_X1_nearestCode : yX1_nearestCode.cls = RX1 ∧ yX1_nearestCode.cls ≠ "java/lang/invoke/MethodHandle" ∧ yX1_nearestCode.cls ≠ "java/lang/invoke/VarHandle" ∧ (parseMethodDescriptor yX1_nearestCode.desc).map (fun d => d.parameters.length) = some 3 := by decide +kernel
set_option maxHeartbeats 4000000 in
set_option maxRecDepth 100000 in
theorem c_X1_nearestCode (l : Launch) (D : va_G) (cI cR : ClassId) (d e1 e2 e3 e4 n : Nat) (P X Y L : Nat → Nat) (a : Nat) (b : Int) (C : Nat) (hok : zOk n P X Y L) (ha : a < 256) (hb : -1 ≤ b ∧ b < 2 * (n : Int)) (hC : C ≤ 500) : Met l yX1_nearestCode wm_X1_nearestCode ({ frames := 4, cells := 0, slots := 0, locals := 88 } : Room) (va_Pc [.ref d, .int (nI a), .int (zI b), .int (nI C)] (zW D cI cR [(d, .inr (1, [.int (nI n), .ref e1, .ref e2, .ref e3, .ref e4])), (e1, zA cI 8 P), (e2, zA cI 16 X), (e3, zA cI 16 Y), (e4, zA cI 8 L)])) (vp_Si (fun r => r = zI (amf (fun j => inS a j) (fun j => stp P X Y C b j) (2 * n)))) 0 0 (fun _ => False) := by
  refine Met.ofW (cc := cX1_nearestCode) (maxL := 8) (ret := (some .int)) (by decide) rfl ?_
  intro p e s m args below meth c s₁ B hml hv
  obtain ⟨rfl, hG⟩ := hv
  have S : CallFix p m c cX1_nearestCode 8 s ([.ref d, .int (nI a), .int (zI b), .int (nI C)] : List Value).toArray wU RX1 := ⟨B.exec, B.bytes, hml, findClass_of_methodNamed B.named, fun w h => atoms_spec (ws := wm_X1_nearestCode) B.pre w (List.mem_cons_of_mem _ h)⟩
  have hr := B.returns
  have hlocks := B.notSynchronized
  have hG : zG D cI cR [(d, .inr (1, [.int (nI n), .ref e1, .ref e2, .ref e3, .ref e4])), (e1, zA cI 8 P), (e2, zA cI 16 X), (e3, zA cI 16 Y), (e4, zA cI 8 L)] s s.heap := hG
  have hl := lv_entry ([.ref d, .int (nI a), .int (zI b), .int (nI C)]) (n := 8) (Nat.le_of_ble_eq_true rfl)
  rw [lg_entry_eq]
  generalize (lg_sl ([.ref d, .int (nI a), .int (zI b), .int (nI C)]) ++ List.replicate (8 - (lg_sl ([.ref d, .int (nI a), .int (zI b), .int (nI C)])).length) Slot.unset).toArray = ls at hl ⊢
  have hl : lv_has ls 8 [(0, .ref d), (1, .int (nI a)), (2, .int (zI b)), (3, .int (nI C))] := hl
  obtain ⟨hn, hPf, hXY, hLf, hinj⟩ := id hok
  refine zz_iconst (pc := 0) (v := zI (-1)) S dX1_nearestCode_0 rfl ?_
  refine lv_istore (pc := 1) (lv' := [(4, .int (zI (-1))), (0, .ref d), (1, .int (nI a)), (2, .int (zI b)), (3, .int (nI C))]) S.1 S.2.1 dX1_nearestCode_1 hl (by decide) rfl (fun ls hl => ?_)
  refine zz_iconst (pc := 3) (v := nI 0) S dX1_nearestCode_3 rfl ?_
  refine lv_istore (pc := 4) (lv' := [(5, .int (nI 0)), (4, .int (zI (-1))), (0, .ref d), (1, .int (nI a)), (2, .int (zI b)), (3, .int (nI C))]) S.1 S.2.1 dX1_nearestCode_4 hl (by decide) rfl (fun ls hl => ?_)
  refine zz_iconst (pc := 6) (v := nI 0) S dX1_nearestCode_6 rfl ?_
  refine lv_istore (pc := 7) (lv' := [(6, .int (nI 0)), (5, .int (nI 0)), (4, .int (zI (-1))), (0, .ref d), (1, .int (nI a)), (2, .int (zI b)), (3, .int (nI C))]) S.1 S.2.1 dX1_nearestCode_7 hl (by decide) rfl (fun ls hl => ?_)
  have L1 : ∀ (f : Nat) (k : Nat), (k ≤ 2 * n) → 2 * n - k < f → ∀ ls : Array Slot, lv_has ls 8 [(0, .ref d), (1, .int (nI a)), (2, .int (zI b)), (3, .int (nI C)), (4, .int (zI (amf (fun j => inS a j) (fun j => stp P X Y C b j) k))), (5, .int (nI (amv (fun j => inS a j) (fun j => stp P X Y C b j) k))), (6, .int (nI k))] → W p l e (headSpec wm_X1_nearestCode ({ frames := 4, cells := 0, slots := 0, locals := 88 } : Room)).room s m ([.ref d, .int (nI a), .int (zI b), .int (nI C)] : List Value).toArray below meth c s.heap [] 0 0 (MQ below (vp_Si (fun r => r = zI (amf (fun j => inS a j) (fun j => stp P X Y C b j) (2 * n)))) ([.ref d, .int (nI a), .int (zI b), .int (nI C)] : List Value).toArray s 0 0 (fun _ => False)) (F0 m 9 ls []) := by
    intro f
    induction f with
    | zero => intro k hk hf; exact absurd hf (Nat.not_lt_zero _)
    | succ f ih2 =>
      intro k hk hf ls hl
      have hp := amf_rng (fun j => inS a j) (fun j => stp P X Y C b j) k
      have hv := amv_le (Q := (fun j => inS a j)) (g := (fun j => stp P X Y C b j)) (k := k) (m := 599) (fun j hj => by have q := stp_le (P := P) (X := X) (Y := Y) (C := C) (a := b) (b := j) hXY (by omega) (by omega); omega)
      refine lv_iload (pc := 9) S.1 S.2.1 dX1_nearestCode_9 (lv_at hl 6 rfl) ?_
      refine zz_iconst (pc := 11) (v := nI 2) S dX1_nearestCode_11 rfl ?_
      refine lv_aload_n (pc := 12) S.1 S.2.1 dX1_nearestCode_12 rfl (lv_at hl 0 rfl) ?_
      refine zz_get (pc := 13) S hG iX1 0 rfl rfl 0 (by decide) wd_93 rfl rfl dX1_nearestCode_13 ?_
      refine zz_imul (pc := 16) (v := nI (2 * n)) S dX1_nearestCode_16 (n_mul _ _) ?_
      refine zz_icmp_ge (pc := 17) (tgt := 69) S dX1_nearestCode_17 (by decide) (n_le (by omega) (by omega)) (fun c17 => ?_) (fun c17 => ?_)
      · refine lv_iload (pc := 69) S.1 S.2.1 dX1_nearestCode_69 (lv_at hl 4 rfl) ?_
        exact zz_iretS (pc := 71) S hr hlocks (congrArg zI (a₁ := amf (fun j => inS a j) (fun j => stp P X Y C b j) k) (by rw [show k = 2 * n by omega])) dX1_nearestCode_71
      · refine lv_iload_n (pc := 20) S.1 S.2.1 dX1_nearestCode_20 rfl (lv_at hl 1 rfl) ?_
        refine lv_iload (pc := 21) S.1 S.2.1 dX1_nearestCode_21 (lv_at hl 6 rfl) ?_
        refine zz_iconst (pc := 23) (v := nI 2) S dX1_nearestCode_23 rfl ?_
        refine zz_idiv (pc := 24) (v := nI (k / 2)) S dX1_nearestCode_24 (by decide) (n_div (by omega) (by decide) (by decide)) ?_
        refine zz_ishr (pc := 25) (v := nI (a / 2 ^ (k / 2))) S dX1_nearestCode_25 (n_shr (by omega) (by omega)) ?_
        refine zz_iconst (pc := 26) (v := nI 1) S dX1_nearestCode_26 rfl ?_
        refine zz_iand (pc := 27) (v := nI ((a / 2 ^ (k / 2)) % 2)) S dX1_nearestCode_27 (n_and1 _) ?_
        refine zz_iconst (pc := 28) (v := nI 1) S dX1_nearestCode_28 rfl ?_
        refine zz_icmp_ne (pc := 29) (tgt := 63) S dX1_nearestCode_29 (by decide) (n_eq (by omega) (by omega)) (fun c29 => ?_) (fun c29 => ?_)
        · have w := amf_skip (Q := (fun j => inS a j)) (g := (fun j => stp P X Y C b j)) (k := k) c29
          refine lv_iinc (pc := 63) (v := nI (k + 1)) (lv' := [(6, .int (nI (k + 1))), (0, .ref d), (1, .int (nI a)), (2, .int (zI b)), (3, .int (nI C)), (4, .int (zI (amf (fun j => inS a j) (fun j => stp P X Y C b j) k))), (5, .int (nI (amv (fun j => inS a j) (fun j => stp P X Y C b j) k)))]) S.1 S.2.1 dX1_nearestCode_63 hl (k := 6) rfl (n_add _ _) (by decide) rfl (fun ls hl => ?_)
          refine lv_goto (pc := 66) (tgt := 9) S.1 S.2.1 dX1_nearestCode_66 (by decide) ?_
          exact ih2 (k + 1) (by omega) (by omega) ls (by rw [w.1, w.2]; first | exact lv_sub hl [0, 1, 2, 3, 4, 5, 6] rfl | skip; exact lv_sub hl [1, 2, 3, 4, 5, 6, 0] rfl)
        · refine lv_aload_n (pc := 32) S.1 S.2.1 dX1_nearestCode_32 rfl (lv_at hl 0 rfl) ?_
          refine lv_iload_n (pc := 33) S.1 S.2.1 dX1_nearestCode_33 rfl (lv_at hl 2 rfl) ?_
          refine lv_iload (pc := 34) S.1 S.2.1 dX1_nearestCode_34 (lv_at hl 6 rfl) ?_
          refine lv_iload_n (pc := 36) S.1 S.2.1 dX1_nearestCode_36 rfl (lv_at hl 3 rfl) ?_
          refine zz_callV (pc := 37) (As := [.int (zI b), .int (nI k), .int (nI C)]) (rest := []) S (c_X1_stepCost l D cI cR d e1 e2 e3 e4 n P X Y L b k C hok (by omega) (by omega) (by omega)) (zuV wd_408 wd_405 wd_406 wd_407 wd_14) 3 rfl q_X1_stepCost ⟨⟨rfl, rfl⟩, Nat.le_of_ble_eq_true rfl, Nat.le_of_ble_eq_true rfl⟩ hG [0, 1, 2, 3, 4] rfl 0 rfl rfl rfl rfl rfl (Nat.le_of_ble_eq_true rfl) hl.1 ⟨Nat.zero_le _, Nat.zero_le _⟩ dX1_nearestCode_37 ?_
          have g3 := stp_le (P := P) (X := X) (Y := Y) (C := C) (a := b) (b := k) (n := n) hXY (by omega) (by omega)
          refine lv_istore (pc := 40) (lv' := [(7, .int (nI (stp P X Y C b k))), (0, .ref d), (1, .int (nI a)), (2, .int (zI b)), (3, .int (nI C)), (4, .int (zI (amf (fun j => inS a j) (fun j => stp P X Y C b j) k))), (5, .int (nI (amv (fun j => inS a j) (fun j => stp P X Y C b j) k))), (6, .int (nI k))]) S.1 S.2.1 dX1_nearestCode_40 hl (by decide) rfl (fun ls hl => ?_)
          refine lv_iload (pc := 42) S.1 S.2.1 dX1_nearestCode_42 (lv_at hl 5 rfl) ?_
          refine zz_iconst (pc := 44) (v := zI (-1)) S dX1_nearestCode_44 rfl ?_
          refine zz_icmp_eq (pc := 45) (tgt := 55) S dX1_nearestCode_45 (by decide) (zI_eq (a := amf (fun j => inS a j) (fun j => stp P X Y C b j) k) (b := (-1)) (by unfold zR; omega) (by unfold zR; omega)) (fun c45 => ?_) (fun c45 => ?_)
          · have w := amf_take (Q := (fun j => inS a j)) (g := (fun j => stp P X Y C b j)) (k := k) c29 (Or.inl c45)
            refine lv_iload (pc := 55) S.1 S.2.1 dX1_nearestCode_55 (lv_at hl 7 rfl) ?_
            refine lv_istore (pc := 57) (lv' := [(4, .int (nI k)), (7, .int (nI (stp P X Y C b k))), (0, .ref d), (1, .int (nI a)), (2, .int (zI b)), (3, .int (nI C)), (5, .int (nI (amv (fun j => inS a j) (fun j => stp P X Y C b j) k))), (6, .int (nI k))]) S.1 S.2.1 dX1_nearestCode_57 hl (by decide) rfl (fun ls hl => ?_)
            refine lv_iload (pc := 59) S.1 S.2.1 dX1_nearestCode_59 (lv_at hl 1 rfl) ?_
            refine lv_istore (pc := 61) (lv' := [(5, .int (nI (stp P X Y C b k))), (4, .int (nI k)), (7, .int (nI (stp P X Y C b k))), (0, .ref d), (1, .int (nI a)), (2, .int (zI b)), (3, .int (nI C)), (6, .int (nI k))]) S.1 S.2.1 dX1_nearestCode_61 hl (by decide) rfl (fun ls hl => ?_)
            refine lv_iinc (pc := 63) (v := nI (k + 1)) (lv' := [(6, .int (nI (k + 1))), (5, .int (nI (stp P X Y C b k))), (4, .int (nI k)), (7, .int (nI (stp P X Y C b k))), (0, .ref d), (1, .int (nI a)), (2, .int (zI b)), (3, .int (nI C))]) S.1 S.2.1 dX1_nearestCode_63 hl (k := 7) rfl (n_add _ _) (by decide) rfl (fun ls hl => ?_)
            refine lv_goto (pc := 66) (tgt := 9) S.1 S.2.1 dX1_nearestCode_66 (by decide) ?_
            exact ih2 (k + 1) (by omega) (by omega) ls (by rw [w.1, w.2]; first | exact lv_sub hl [0, 1, 2, 3, 4, 5, 6] rfl | skip; exact lv_sub hl [4, 5, 6, 7, 2, 1, 0] rfl)
          · refine lv_iload (pc := 48) S.1 S.2.1 dX1_nearestCode_48 (lv_at hl 0 rfl) ?_
            refine lv_iload (pc := 50) S.1 S.2.1 dX1_nearestCode_50 (lv_at hl 6 rfl) ?_
            refine zz_icmp_ge (pc := 52) (tgt := 63) S dX1_nearestCode_52 (by decide) (n_le (by omega) (by omega)) (fun c52 => ?_) (fun c52 => ?_)
            · have w := amf_keep (Q := (fun j => inS a j)) (g := (fun j => stp P X Y C b j)) (k := k) c45 (by omega)
              refine lv_iinc (pc := 63) (v := nI (k + 1)) (lv' := [(6, .int (nI (k + 1))), (7, .int (nI (stp P X Y C b k))), (0, .ref d), (1, .int (nI a)), (2, .int (zI b)), (3, .int (nI C)), (4, .int (zI (amf (fun j => inS a j) (fun j => stp P X Y C b j) k))), (5, .int (nI (amv (fun j => inS a j) (fun j => stp P X Y C b j) k)))]) S.1 S.2.1 dX1_nearestCode_63 hl (k := 7) rfl (n_add _ _) (by decide) rfl (fun ls hl => ?_)
              refine lv_goto (pc := 66) (tgt := 9) S.1 S.2.1 dX1_nearestCode_66 (by decide) ?_
              exact ih2 (k + 1) (by omega) (by omega) ls (by rw [w.1, w.2]; first | exact lv_sub hl [0, 1, 2, 3, 4, 5, 6] rfl | skip; exact lv_sub hl [2, 3, 4, 5, 6, 7, 0] rfl)
            · have w := amf_take (Q := (fun j => inS a j)) (g := (fun j => stp P X Y C b j)) (k := k) c29 (Or.inr (by omega))
              refine lv_iload (pc := 55) S.1 S.2.1 dX1_nearestCode_55 (lv_at hl 7 rfl) ?_
              refine lv_istore (pc := 57) (lv' := [(4, .int (nI k)), (7, .int (nI (stp P X Y C b k))), (0, .ref d), (1, .int (nI a)), (2, .int (zI b)), (3, .int (nI C)), (5, .int (nI (amv (fun j => inS a j) (fun j => stp P X Y C b j) k))), (6, .int (nI k))]) S.1 S.2.1 dX1_nearestCode_57 hl (by decide) rfl (fun ls hl => ?_)
              refine lv_iload (pc := 59) S.1 S.2.1 dX1_nearestCode_59 (lv_at hl 1 rfl) ?_
              refine lv_istore (pc := 61) (lv' := [(5, .int (nI (stp P X Y C b k))), (4, .int (nI k)), (7, .int (nI (stp P X Y C b k))), (0, .ref d), (1, .int (nI a)), (2, .int (zI b)), (3, .int (nI C)), (6, .int (nI k))]) S.1 S.2.1 dX1_nearestCode_61 hl (by decide) rfl (fun ls hl => ?_)
              refine lv_iinc (pc := 63) (v := nI (k + 1)) (lv' := [(6, .int (nI (k + 1))), (5, .int (nI (stp P X Y C b k))), (4, .int (nI k)), (7, .int (nI (stp P X Y C b k))), (0, .ref d), (1, .int (nI a)), (2, .int (zI b)), (3, .int (nI C))]) S.1 S.2.1 dX1_nearestCode_63 hl (k := 7) rfl (n_add _ _) (by decide) rfl (fun ls hl => ?_)
              refine lv_goto (pc := 66) (tgt := 9) S.1 S.2.1 dX1_nearestCode_66 (by decide) ?_
              exact ih2 (k + 1) (by omega) (by omega) ls (by rw [w.1, w.2]; first | exact lv_sub hl [0, 1, 2, 3, 4, 5, 6] rfl | skip; exact lv_sub hl [4, 5, 6, 7, 2, 1, 0] rfl)
  exact L1 (2 * n - 0 + 1) 0 (by omega) (Nat.lt_succ_self _) ls (lv_sub hl [3, 4, 5, 6, 2, 1, 0] rfl)
end
