section
-- ===== PART A: goes FIRST, ahead of the names: the tables' words, and 'selects' of the private methods out of them =====
/-- a private method of a class that the tables say can be made, by its rows of tables_1 -/
def lw_okq (q : MethodName × Nat) : Prop := (q.1.cls ≠ "java/lang/invoke/MethodHandle" ∧ q.1.cls ≠ "java/lang/invoke/VarHandle") ∧ Cond.instantiable q.1.cls q.2 ∈ tables_1 ∧ Cond.privateMethod q.1 ∈ tables_1 ∧ Cond.instanceMethod q.1 ∈ tables_1
theorem lw_p0 : lw_okq (⟨"TaskShare", "leastLatenessAlone", "(LTaskShare$Task;)I"⟩, 7) := ⟨⟨by decide +kernel, by decide +kernel⟩, List.mem_of_getElem? (i := 25) (by decide +kernel), List.mem_of_getElem? (i := 159) (by decide +kernel), List.mem_of_getElem? (i := 160) (by decide +kernel)⟩
theorem lw_p1 : lw_okq (⟨"TaskShare$Person", "may", "(LTaskShare$Task;)Z"⟩, 14) := ⟨⟨by decide +kernel, by decide +kernel⟩, List.mem_of_getElem? (i := 167) (by decide +kernel), List.mem_of_getElem? (i := 165) (by decide +kernel), List.mem_of_getElem? (i := 166) (by decide +kernel)⟩
theorem lw_p2 : lw_okq (⟨"TaskShare$Person", "hasSkill", "(I)Z"⟩, 14) := ⟨⟨by decide +kernel, by decide +kernel⟩, List.mem_of_getElem? (i := 167) (by decide +kernel), List.mem_of_getElem? (i := 170) (by decide +kernel), List.mem_of_getElem? (i := 171) (by decide +kernel)⟩
theorem lw_p3 : lw_okq (⟨"TaskShare$Person", "hasRefused", "(LTaskShare$Task;)Z"⟩, 14) := ⟨⟨by decide +kernel, by decide +kernel⟩, List.mem_of_getElem? (i := 167) (by decide +kernel), List.mem_of_getElem? (i := 174) (by decide +kernel), List.mem_of_getElem? (i := 175) (by decide +kernel)⟩
theorem lw_p4 : lw_okq (⟨"TaskShare", "startAsOnlyOne", "(LTaskShare$Person;LTaskShare$Task;)I"⟩, 7) := ⟨⟨by decide +kernel, by decide +kernel⟩, List.mem_of_getElem? (i := 25) (by decide +kernel), List.mem_of_getElem? (i := 178) (by decide +kernel), List.mem_of_getElem? (i := 179) (by decide +kernel)⟩
theorem lw_p5 : lw_okq (⟨"TaskShare$Person", "freeFrom", "(I)I"⟩, 14) := ⟨⟨by decide +kernel, by decide +kernel⟩, List.mem_of_getElem? (i := 167) (by decide +kernel), List.mem_of_getElem? (i := 182) (by decide +kernel), List.mem_of_getElem? (i := 183) (by decide +kernel)⟩
theorem lw_p6 : lw_okq (⟨"TaskShare$Person", "startOf", "(LTaskShare$Task;IILTaskShare$Ways;)I"⟩, 14) := ⟨⟨by decide +kernel, by decide +kernel⟩, List.mem_of_getElem? (i := 167) (by decide +kernel), List.mem_of_getElem? (i := 189) (by decide +kernel), List.mem_of_getElem? (i := 190) (by decide +kernel)⟩
theorem lw_p7 : lw_okq (⟨"TaskShare$Ways", "between", "(II)I"⟩, 1) := ⟨⟨by decide +kernel, by decide +kernel⟩, List.mem_of_getElem? (i := 59) (by decide +kernel), List.mem_of_getElem? (i := 193) (by decide +kernel), List.mem_of_getElem? (i := 194) (by decide +kernel)⟩
theorem lw_p8 : lw_okq (⟨"TaskShare$Task", "latenessFrom", "(I)I"⟩, 8) := ⟨⟨by decide +kernel, by decide +kernel⟩, List.mem_of_getElem? (i := 199) (by decide +kernel), List.mem_of_getElem? (i := 197) (by decide +kernel), List.mem_of_getElem? (i := 198) (by decide +kernel)⟩
theorem lw_p9 : lw_okq (⟨"TaskShare", "tasksIn", "(I)I"⟩, 7) := ⟨⟨by decide +kernel, by decide +kernel⟩, List.mem_of_getElem? (i := 25) (by decide +kernel), List.mem_of_getElem? (i := 210) (by decide +kernel), List.mem_of_getElem? (i := 211) (by decide +kernel)⟩
theorem lw_p10 : lw_okq (⟨"TaskShare", "tasksOf", "(II)I"⟩, 7) := ⟨⟨by decide +kernel, by decide +kernel⟩, List.mem_of_getElem? (i := 25) (by decide +kernel), List.mem_of_getElem? (i := 214) (by decide +kernel), List.mem_of_getElem? (i := 215) (by decide +kernel)⟩
theorem lw_p11 : lw_okq (⟨"TaskShare$Task", "isOf", "(II)Z"⟩, 8) := ⟨⟨by decide +kernel, by decide +kernel⟩, List.mem_of_getElem? (i := 199) (by decide +kernel), List.mem_of_getElem? (i := 218) (by decide +kernel), List.mem_of_getElem? (i := 219) (by decide +kernel)⟩
theorem lw_p12 : lw_okq (⟨"TaskShare", "latenessOfPlan", "()I"⟩, 7) := ⟨⟨by decide +kernel, by decide +kernel⟩, List.mem_of_getElem? (i := 25) (by decide +kernel), List.mem_of_getElem? (i := 222) (by decide +kernel), List.mem_of_getElem? (i := 223) (by decide +kernel)⟩
theorem lw_p13 : lw_okq (⟨"java/lang/Throwable", "fillInStackTrace", "(I)Ljava/lang/Throwable;"⟩, 6) := ⟨⟨by decide +kernel, by decide +kernel⟩, List.mem_of_getElem? (i := 277) (by decide +kernel), List.mem_of_getElem? (i := 275) (by decide +kernel), List.mem_of_getElem? (i := 276) (by decide +kernel)⟩
theorem lw_p14 : lw_okq (⟨"java/util/ArrayList", "add", "(Ljava/lang/Object;[Ljava/lang/Object;I)V"⟩, 3) := ⟨⟨by decide +kernel, by decide +kernel⟩, List.mem_of_getElem? (i := 33) (by decide +kernel), List.mem_of_getElem? (i := 395) (by decide +kernel), List.mem_of_getElem? (i := 396) (by decide +kernel)⟩
theorem lw_p15 : lw_okq (⟨"java/util/ArrayList", "grow", "()[Ljava/lang/Object;"⟩, 3) := ⟨⟨by decide +kernel, by decide +kernel⟩, List.mem_of_getElem? (i := 33) (by decide +kernel), List.mem_of_getElem? (i := 399) (by decide +kernel), List.mem_of_getElem? (i := 400) (by decide +kernel)⟩
def lw_privs_1 : List (MethodName × Nat) := [(⟨"TaskShare", "leastLatenessAlone", "(LTaskShare$Task;)I"⟩, 7), (⟨"TaskShare$Person", "may", "(LTaskShare$Task;)Z"⟩, 14), (⟨"TaskShare$Person", "hasSkill", "(I)Z"⟩, 14), (⟨"TaskShare$Person", "hasRefused", "(LTaskShare$Task;)Z"⟩, 14), (⟨"TaskShare", "startAsOnlyOne", "(LTaskShare$Person;LTaskShare$Task;)I"⟩, 7), (⟨"TaskShare$Person", "freeFrom", "(I)I"⟩, 14), (⟨"TaskShare$Person", "startOf", "(LTaskShare$Task;IILTaskShare$Ways;)I"⟩, 14), (⟨"TaskShare$Ways", "between", "(II)I"⟩, 1), (⟨"TaskShare$Task", "latenessFrom", "(I)I"⟩, 8), (⟨"TaskShare", "tasksIn", "(I)I"⟩, 7), (⟨"TaskShare", "tasksOf", "(II)I"⟩, 7), (⟨"TaskShare$Task", "isOf", "(II)Z"⟩, 8), (⟨"TaskShare", "latenessOfPlan", "()I"⟩, 7), (⟨"java/lang/Throwable", "fillInStackTrace", "(I)Ljava/lang/Throwable;"⟩, 6), (⟨"java/util/ArrayList", "add", "(Ljava/lang/Object;[Ljava/lang/Object;I)V"⟩, 3), (⟨"java/util/ArrayList", "grow", "()[Ljava/lang/Object;"⟩, 3)]
theorem lw_r1 : ∀ q ∈ lw_privs_1, lw_okq q := List.forall_mem_cons.mpr ⟨lw_p0, List.forall_mem_cons.mpr ⟨lw_p1, List.forall_mem_cons.mpr ⟨lw_p2, List.forall_mem_cons.mpr ⟨lw_p3, List.forall_mem_cons.mpr ⟨lw_p4, List.forall_mem_cons.mpr ⟨lw_p5, List.forall_mem_cons.mpr ⟨lw_p6, List.forall_mem_cons.mpr ⟨lw_p7, List.forall_mem_cons.mpr ⟨lw_p8, List.forall_mem_cons.mpr ⟨lw_p9, List.forall_mem_cons.mpr ⟨lw_p10, List.forall_mem_cons.mpr ⟨lw_p11, List.forall_mem_cons.mpr ⟨lw_p12, List.forall_mem_cons.mpr ⟨lw_p13, List.forall_mem_cons.mpr ⟨lw_p14, List.forall_mem_cons.mpr ⟨lw_p15, fun _ h => absurd h List.not_mem_nil⟩⟩⟩⟩⟩⟩⟩⟩⟩⟩⟩⟩⟩⟩⟩⟩
theorem lw_p16 : lw_okq (⟨"java/util/ArrayList", "grow", "(I)[Ljava/lang/Object;"⟩, 3) := ⟨⟨by decide +kernel, by decide +kernel⟩, List.mem_of_getElem? (i := 33) (by decide +kernel), List.mem_of_getElem? (i := 403) (by decide +kernel), List.mem_of_getElem? (i := 404) (by decide +kernel)⟩
theorem lw_p17 : lw_okq (⟨"TaskShare", "personOf", "(I)LTaskShare$Person;"⟩, 7) := ⟨⟨by decide +kernel, by decide +kernel⟩, List.mem_of_getElem? (i := 25) (by decide +kernel), List.mem_of_getElem? (i := 453) (by decide +kernel), List.mem_of_getElem? (i := 454) (by decide +kernel)⟩
theorem lw_p18 : lw_okq (⟨"TaskShare$Ways", "put", "(III)V"⟩, 1) := ⟨⟨by decide +kernel, by decide +kernel⟩, List.mem_of_getElem? (i := 59) (by decide +kernel), List.mem_of_getElem? (i := 564) (by decide +kernel), List.mem_of_getElem? (i := 565) (by decide +kernel)⟩
theorem lw_p19 : lw_okq (⟨"TaskShare", "taskOf", "(I)LTaskShare$Task;"⟩, 7) := ⟨⟨by decide +kernel, by decide +kernel⟩, List.mem_of_getElem? (i := 25) (by decide +kernel), List.mem_of_getElem? (i := 575) (by decide +kernel), List.mem_of_getElem? (i := 576) (by decide +kernel)⟩
theorem lw_p20 : lw_okq (⟨"TaskShare$Task", "free", "()V"⟩, 8) := ⟨⟨by decide +kernel, by decide +kernel⟩, List.mem_of_getElem? (i := 199) (by decide +kernel), List.mem_of_getElem? (i := 586) (by decide +kernel), List.mem_of_getElem? (i := 587) (by decide +kernel)⟩
theorem lw_p21 : lw_okq (⟨"TaskShare", "freeOpenTasks", "()V"⟩, 7) := ⟨⟨by decide +kernel, by decide +kernel⟩, List.mem_of_getElem? (i := 25) (by decide +kernel), List.mem_of_getElem? (i := 604) (by decide +kernel), List.mem_of_getElem? (i := 605) (by decide +kernel)⟩
theorem lw_p22 : lw_okq (⟨"TaskShare$ExactPlanner", "plan", "(Ljava/util/ArrayList;Ljava/util/ArrayList;LTaskShare$Ways;I)V"⟩, 8) := ⟨⟨by decide +kernel, by decide +kernel⟩, List.mem_of_getElem? (i := 70) (by decide +kernel), List.mem_of_getElem? (i := 608) (by decide +kernel), List.mem_of_getElem? (i := 609) (by decide +kernel)⟩
theorem lw_p23 : lw_okq (⟨"TaskShare$ExactPlanner", "collectOpen", "(Ljava/util/ArrayList;)V"⟩, 8) := ⟨⟨by decide +kernel, by decide +kernel⟩, List.mem_of_getElem? (i := 70) (by decide +kernel), List.mem_of_getElem? (i := 612) (by decide +kernel), List.mem_of_getElem? (i := 613) (by decide +kernel)⟩
theorem lw_p24 : lw_okq (⟨"TaskShare$ExactPlanner", "tryOrders", "(LTaskShare$Person;LTaskShare$Ways;III)V"⟩, 8) := ⟨⟨by decide +kernel, by decide +kernel⟩, List.mem_of_getElem? (i := 70) (by decide +kernel), List.mem_of_getElem? (i := 627) (by decide +kernel), List.mem_of_getElem? (i := 628) (by decide +kernel)⟩
theorem lw_p25 : lw_okq (⟨"TaskShare$ExactPlanner", "keepIfBetter", "(III)V"⟩, 8) := ⟨⟨by decide +kernel, by decide +kernel⟩, List.mem_of_getElem? (i := 70) (by decide +kernel), List.mem_of_getElem? (i := 631) (by decide +kernel), List.mem_of_getElem? (i := 632) (by decide +kernel)⟩
theorem lw_p26 : lw_okq (⟨"TaskShare$ExactPlanner", "startsEarlier", "(II)Z"⟩, 8) := ⟨⟨by decide +kernel, by decide +kernel⟩, List.mem_of_getElem? (i := 70) (by decide +kernel), List.mem_of_getElem? (i := 635) (by decide +kernel), List.mem_of_getElem? (i := 636) (by decide +kernel)⟩
theorem lw_p27 : lw_okq (⟨"TaskShare$ExactPlanner", "shareOut", "(I)V"⟩, 8) := ⟨⟨by decide +kernel, by decide +kernel⟩, List.mem_of_getElem? (i := 70) (by decide +kernel), List.mem_of_getElem? (i := 642) (by decide +kernel), List.mem_of_getElem? (i := 643) (by decide +kernel)⟩
theorem lw_p28 : lw_okq (⟨"TaskShare$ExactPlanner", "rank", "(III)J"⟩, 8) := ⟨⟨by decide +kernel, by decide +kernel⟩, List.mem_of_getElem? (i := 70) (by decide +kernel), List.mem_of_getElem? (i := 648) (by decide +kernel), List.mem_of_getElem? (i := 649) (by decide +kernel)⟩
theorem lw_p29 : lw_okq (⟨"TaskShare$ExactPlanner", "chooseFrom", "(II)V"⟩, 8) := ⟨⟨by decide +kernel, by decide +kernel⟩, List.mem_of_getElem? (i := 70) (by decide +kernel), List.mem_of_getElem? (i := 653) (by decide +kernel), List.mem_of_getElem? (i := 654) (by decide +kernel)⟩
theorem lw_p30 : lw_okq (⟨"TaskShare$ExactPlanner", "tell", "(I)V"⟩, 8) := ⟨⟨by decide +kernel, by decide +kernel⟩, List.mem_of_getElem? (i := 70) (by decide +kernel), List.mem_of_getElem? (i := 657) (by decide +kernel), List.mem_of_getElem? (i := 658) (by decide +kernel)⟩
theorem lw_p31 : lw_okq (⟨"TaskShare$Task", "planFor", "(II)V"⟩, 8) := ⟨⟨by decide +kernel, by decide +kernel⟩, List.mem_of_getElem? (i := 199) (by decide +kernel), List.mem_of_getElem? (i := 661) (by decide +kernel), List.mem_of_getElem? (i := 662) (by decide +kernel)⟩
def lw_privs_2 : List (MethodName × Nat) := [(⟨"java/util/ArrayList", "grow", "(I)[Ljava/lang/Object;"⟩, 3), (⟨"TaskShare", "personOf", "(I)LTaskShare$Person;"⟩, 7), (⟨"TaskShare$Ways", "put", "(III)V"⟩, 1), (⟨"TaskShare", "taskOf", "(I)LTaskShare$Task;"⟩, 7), (⟨"TaskShare$Task", "free", "()V"⟩, 8), (⟨"TaskShare", "freeOpenTasks", "()V"⟩, 7), (⟨"TaskShare$ExactPlanner", "plan", "(Ljava/util/ArrayList;Ljava/util/ArrayList;LTaskShare$Ways;I)V"⟩, 8), (⟨"TaskShare$ExactPlanner", "collectOpen", "(Ljava/util/ArrayList;)V"⟩, 8), (⟨"TaskShare$ExactPlanner", "tryOrders", "(LTaskShare$Person;LTaskShare$Ways;III)V"⟩, 8), (⟨"TaskShare$ExactPlanner", "keepIfBetter", "(III)V"⟩, 8), (⟨"TaskShare$ExactPlanner", "startsEarlier", "(II)Z"⟩, 8), (⟨"TaskShare$ExactPlanner", "shareOut", "(I)V"⟩, 8), (⟨"TaskShare$ExactPlanner", "rank", "(III)J"⟩, 8), (⟨"TaskShare$ExactPlanner", "chooseFrom", "(II)V"⟩, 8), (⟨"TaskShare$ExactPlanner", "tell", "(I)V"⟩, 8), (⟨"TaskShare$Task", "planFor", "(II)V"⟩, 8)]
theorem lw_r2 : ∀ q ∈ lw_privs_2, lw_okq q := List.forall_mem_cons.mpr ⟨lw_p16, List.forall_mem_cons.mpr ⟨lw_p17, List.forall_mem_cons.mpr ⟨lw_p18, List.forall_mem_cons.mpr ⟨lw_p19, List.forall_mem_cons.mpr ⟨lw_p20, List.forall_mem_cons.mpr ⟨lw_p21, List.forall_mem_cons.mpr ⟨lw_p22, List.forall_mem_cons.mpr ⟨lw_p23, List.forall_mem_cons.mpr ⟨lw_p24, List.forall_mem_cons.mpr ⟨lw_p25, List.forall_mem_cons.mpr ⟨lw_p26, List.forall_mem_cons.mpr ⟨lw_p27, List.forall_mem_cons.mpr ⟨lw_p28, List.forall_mem_cons.mpr ⟨lw_p29, List.forall_mem_cons.mpr ⟨lw_p30, List.forall_mem_cons.mpr ⟨lw_p31, fun _ h => absurd h List.not_mem_nil⟩⟩⟩⟩⟩⟩⟩⟩⟩⟩⟩⟩⟩⟩⟩⟩
theorem lw_p32 : lw_okq (⟨"TaskShare", "planByRule", "()V"⟩, 7) := ⟨⟨by decide +kernel, by decide +kernel⟩, List.mem_of_getElem? (i := 25) (by decide +kernel), List.mem_of_getElem? (i := 665) (by decide +kernel), List.mem_of_getElem? (i := 666) (by decide +kernel)⟩
theorem lw_p33 : lw_okq (⟨"TaskShare", "sortOpenByDue", "()V"⟩, 7) := ⟨⟨by decide +kernel, by decide +kernel⟩, List.mem_of_getElem? (i := 25) (by decide +kernel), List.mem_of_getElem? (i := 669) (by decide +kernel), List.mem_of_getElem? (i := 670) (by decide +kernel)⟩
theorem lw_p34 : lw_okq (⟨"java/util/ArrayList", "rangeCheckForAdd", "(I)V"⟩, 3) := ⟨⟨by decide +kernel, by decide +kernel⟩, List.mem_of_getElem? (i := 33) (by decide +kernel), List.mem_of_getElem? (i := 678) (by decide +kernel), List.mem_of_getElem? (i := 679) (by decide +kernel)⟩
theorem lw_p35 : lw_okq (⟨"TaskShare", "addToBestRow", "(LTaskShare$Task;)V"⟩, 7) := ⟨⟨by decide +kernel, by decide +kernel⟩, List.mem_of_getElem? (i := 25) (by decide +kernel), List.mem_of_getElem? (i := 683) (by decide +kernel), List.mem_of_getElem? (i := 684) (by decide +kernel)⟩
theorem lw_p36 : lw_okq (⟨"TaskShare$Person", "addToRow", "(LTaskShare$Task;)V"⟩, 14) := ⟨⟨by decide +kernel, by decide +kernel⟩, List.mem_of_getElem? (i := 167) (by decide +kernel), List.mem_of_getElem? (i := 688) (by decide +kernel), List.mem_of_getElem? (i := 689) (by decide +kernel)⟩
theorem lw_p37 : lw_okq (⟨"TaskShare", "needAtWork", "(LTaskShare$Person;)V"⟩, 7) := ⟨⟨by decide +kernel, by decide +kernel⟩, List.mem_of_getElem? (i := 25) (by decide +kernel), List.mem_of_getElem? (i := 699) (by decide +kernel), List.mem_of_getElem? (i := 700) (by decide +kernel)⟩
theorem lw_p38 : lw_okq (⟨"TaskShare", "plannedTask", "(II)I"⟩, 7) := ⟨⟨by decide +kernel, by decide +kernel⟩, List.mem_of_getElem? (i := 25) (by decide +kernel), List.mem_of_getElem? (i := 705) (by decide +kernel), List.mem_of_getElem? (i := 706) (by decide +kernel)⟩
theorem lw_p39 : lw_okq (⟨"TaskShare", "plannedBefore", "(LTaskShare$Task;)I"⟩, 7) := ⟨⟨by decide +kernel, by decide +kernel⟩, List.mem_of_getElem? (i := 25) (by decide +kernel), List.mem_of_getElem? (i := 709) (by decide +kernel), List.mem_of_getElem? (i := 710) (by decide +kernel)⟩
theorem lw_p40 : lw_okq (⟨"TaskShareModel", "isPerson", "(I)Z"⟩, 30) := ⟨⟨by decide +kernel, by decide +kernel⟩, List.mem_of_getElem? (i := 767) (by decide +kernel), List.mem_of_getElem? (i := 881) (by decide +kernel), List.mem_of_getElem? (i := 882) (by decide +kernel)⟩
theorem lw_p41 : lw_okq (⟨"TaskShareModel", "isTask", "(I)Z"⟩, 30) := ⟨⟨by decide +kernel, by decide +kernel⟩, List.mem_of_getElem? (i := 767) (by decide +kernel), List.mem_of_getElem? (i := 904) (by decide +kernel), List.mem_of_getElem? (i := 905) (by decide +kernel)⟩
theorem lw_p42 : lw_okq (⟨"TaskShareModel", "hasRefused", "(II)Z"⟩, 30) := ⟨⟨by decide +kernel, by decide +kernel⟩, List.mem_of_getElem? (i := 767) (by decide +kernel), List.mem_of_getElem? (i := 908) (by decide +kernel), List.mem_of_getElem? (i := 909) (by decide +kernel)⟩
theorem lw_p43 : lw_okq (⟨"TaskShareModel", "free", "(I)V"⟩, 30) := ⟨⟨by decide +kernel, by decide +kernel⟩, List.mem_of_getElem? (i := 767) (by decide +kernel), List.mem_of_getElem? (i := 912) (by decide +kernel), List.mem_of_getElem? (i := 913) (by decide +kernel)⟩
theorem lw_p44 : lw_okq (⟨"TaskShareModel", "aloneAt", "(II)I"⟩, 30) := ⟨⟨by decide +kernel, by decide +kernel⟩, List.mem_of_getElem? (i := 767) (by decide +kernel), List.mem_of_getElem? (i := 920) (by decide +kernel), List.mem_of_getElem? (i := 921) (by decide +kernel)⟩
theorem lw_p45 : lw_okq (⟨"TaskShareModel", "readyAt", "(I)I"⟩, 30) := ⟨⟨by decide +kernel, by decide +kernel⟩, List.mem_of_getElem? (i := 767) (by decide +kernel), List.mem_of_getElem? (i := 924) (by decide +kernel), List.mem_of_getElem? (i := 925) (by decide +kernel)⟩
theorem lw_p46 : lw_okq (⟨"TaskShareModel", "startOf", "(IIII)I"⟩, 30) := ⟨⟨by decide +kernel, by decide +kernel⟩, List.mem_of_getElem? (i := 767) (by decide +kernel), List.mem_of_getElem? (i := 931) (by decide +kernel), List.mem_of_getElem? (i := 932) (by decide +kernel)⟩
theorem lw_p47 : lw_okq (⟨"TaskShareModel", "inState", "(I)I"⟩, 30) := ⟨⟨by decide +kernel, by decide +kernel⟩, List.mem_of_getElem? (i := 767) (by decide +kernel), List.mem_of_getElem? (i := 943) (by decide +kernel), List.mem_of_getElem? (i := 944) (by decide +kernel)⟩
def lw_privs_3 : List (MethodName × Nat) := [(⟨"TaskShare", "planByRule", "()V"⟩, 7), (⟨"TaskShare", "sortOpenByDue", "()V"⟩, 7), (⟨"java/util/ArrayList", "rangeCheckForAdd", "(I)V"⟩, 3), (⟨"TaskShare", "addToBestRow", "(LTaskShare$Task;)V"⟩, 7), (⟨"TaskShare$Person", "addToRow", "(LTaskShare$Task;)V"⟩, 14), (⟨"TaskShare", "needAtWork", "(LTaskShare$Person;)V"⟩, 7), (⟨"TaskShare", "plannedTask", "(II)I"⟩, 7), (⟨"TaskShare", "plannedBefore", "(LTaskShare$Task;)I"⟩, 7), (⟨"TaskShareModel", "isPerson", "(I)Z"⟩, 30), (⟨"TaskShareModel", "isTask", "(I)Z"⟩, 30), (⟨"TaskShareModel", "hasRefused", "(II)Z"⟩, 30), (⟨"TaskShareModel", "free", "(I)V"⟩, 30), (⟨"TaskShareModel", "aloneAt", "(II)I"⟩, 30), (⟨"TaskShareModel", "readyAt", "(I)I"⟩, 30), (⟨"TaskShareModel", "startOf", "(IIII)I"⟩, 30), (⟨"TaskShareModel", "inState", "(I)I"⟩, 30)]
theorem lw_r3 : ∀ q ∈ lw_privs_3, lw_okq q := List.forall_mem_cons.mpr ⟨lw_p32, List.forall_mem_cons.mpr ⟨lw_p33, List.forall_mem_cons.mpr ⟨lw_p34, List.forall_mem_cons.mpr ⟨lw_p35, List.forall_mem_cons.mpr ⟨lw_p36, List.forall_mem_cons.mpr ⟨lw_p37, List.forall_mem_cons.mpr ⟨lw_p38, List.forall_mem_cons.mpr ⟨lw_p39, List.forall_mem_cons.mpr ⟨lw_p40, List.forall_mem_cons.mpr ⟨lw_p41, List.forall_mem_cons.mpr ⟨lw_p42, List.forall_mem_cons.mpr ⟨lw_p43, List.forall_mem_cons.mpr ⟨lw_p44, List.forall_mem_cons.mpr ⟨lw_p45, List.forall_mem_cons.mpr ⟨lw_p46, List.forall_mem_cons.mpr ⟨lw_p47, fun _ h => absurd h List.not_mem_nil⟩⟩⟩⟩⟩⟩⟩⟩⟩⟩⟩⟩⟩⟩⟩⟩
theorem lw_p48 : lw_okq (⟨"TaskShareModel", "lateBy", "(II)I"⟩, 30) := ⟨⟨by decide +kernel, by decide +kernel⟩, List.mem_of_getElem? (i := 767) (by decide +kernel), List.mem_of_getElem? (i := 947) (by decide +kernel), List.mem_of_getElem? (i := 948) (by decide +kernel)⟩
theorem lw_p49 : lw_okq (⟨"TaskShareModel", "planByRule", "()V"⟩, 30) := ⟨⟨by decide +kernel, by decide +kernel⟩, List.mem_of_getElem? (i := 767) (by decide +kernel), List.mem_of_getElem? (i := 951) (by decide +kernel), List.mem_of_getElem? (i := 952) (by decide +kernel)⟩
theorem lw_p50 : lw_okq (⟨"TaskShareModel", "planOne", "(I)V"⟩, 30) := ⟨⟨by decide +kernel, by decide +kernel⟩, List.mem_of_getElem? (i := 767) (by decide +kernel), List.mem_of_getElem? (i := 955) (by decide +kernel), List.mem_of_getElem? (i := 956) (by decide +kernel)⟩
theorem lw_p51 : lw_okq (⟨"TaskShareModel", "may", "(II)Z"⟩, 30) := ⟨⟨by decide +kernel, by decide +kernel⟩, List.mem_of_getElem? (i := 767) (by decide +kernel), List.mem_of_getElem? (i := 959) (by decide +kernel), List.mem_of_getElem? (i := 960) (by decide +kernel)⟩
theorem lw_p52 : lw_okq (⟨"TaskShareModel", "behind", "(II)I"⟩, 30) := ⟨⟨by decide +kernel, by decide +kernel⟩, List.mem_of_getElem? (i := 767) (by decide +kernel), List.mem_of_getElem? (i := 963) (by decide +kernel), List.mem_of_getElem? (i := 964) (by decide +kernel)⟩
theorem lw_p53 : lw_okq (⟨"TaskShareModel", "load", "(I)I"⟩, 30) := ⟨⟨by decide +kernel, by decide +kernel⟩, List.mem_of_getElem? (i := 767) (by decide +kernel), List.mem_of_getElem? (i := 967) (by decide +kernel), List.mem_of_getElem? (i := 968) (by decide +kernel)⟩
theorem lw_p54 : lw_okq (⟨"TaskShareModel", "planExactly", "()V"⟩, 30) := ⟨⟨by decide +kernel, by decide +kernel⟩, List.mem_of_getElem? (i := 767) (by decide +kernel), List.mem_of_getElem? (i := 971) (by decide +kernel), List.mem_of_getElem? (i := 972) (by decide +kernel)⟩
theorem lw_p55 : lw_okq (⟨"TaskShareModel", "findOrder", "(II)V"⟩, 30) := ⟨⟨by decide +kernel, by decide +kernel⟩, List.mem_of_getElem? (i := 767) (by decide +kernel), List.mem_of_getElem? (i := 975) (by decide +kernel), List.mem_of_getElem? (i := 976) (by decide +kernel)⟩
theorem lw_p56 : lw_okq (⟨"TaskShareModel", "tryOrder", "(II)I"⟩, 30) := ⟨⟨by decide +kernel, by decide +kernel⟩, List.mem_of_getElem? (i := 767) (by decide +kernel), List.mem_of_getElem? (i := 979) (by decide +kernel), List.mem_of_getElem? (i := 980) (by decide +kernel)⟩
theorem lw_p57 : lw_okq (⟨"TaskShareModel", "startsAreLess", "(II)Z"⟩, 30) := ⟨⟨by decide +kernel, by decide +kernel⟩, List.mem_of_getElem? (i := 767) (by decide +kernel), List.mem_of_getElem? (i := 983) (by decide +kernel), List.mem_of_getElem? (i := 984) (by decide +kernel)⟩
theorem lw_p58 : lw_okq (⟨"TaskShareModel", "nextOrder", "(I)Z"⟩, 30) := ⟨⟨by decide +kernel, by decide +kernel⟩, List.mem_of_getElem? (i := 767) (by decide +kernel), List.mem_of_getElem? (i := 987) (by decide +kernel), List.mem_of_getElem? (i := 988) (by decide +kernel)⟩
theorem lw_p59 : lw_okq (⟨"TaskShareModel", "swap", "(II)V"⟩, 30) := ⟨⟨by decide +kernel, by decide +kernel⟩, List.mem_of_getElem? (i := 767) (by decide +kernel), List.mem_of_getElem? (i := 991) (by decide +kernel), List.mem_of_getElem? (i := 992) (by decide +kernel)⟩
theorem lw_p60 : lw_okq (⟨"TaskShareModel", "costOf", "()I"⟩, 30) := ⟨⟨by decide +kernel, by decide +kernel⟩, List.mem_of_getElem? (i := 767) (by decide +kernel), List.mem_of_getElem? (i := 995) (by decide +kernel), List.mem_of_getElem? (i := 996) (by decide +kernel)⟩
theorem lw_p61 : lw_okq (⟨"TaskShareModel", "setOf", "(I)I"⟩, 30) := ⟨⟨by decide +kernel, by decide +kernel⟩, List.mem_of_getElem? (i := 767) (by decide +kernel), List.mem_of_getElem? (i := 999) (by decide +kernel), List.mem_of_getElem? (i := 1000) (by decide +kernel)⟩
theorem lw_p62 : lw_okq (⟨"TaskShareModel", "planned", "(II)I"⟩, 30) := ⟨⟨by decide +kernel, by decide +kernel⟩, List.mem_of_getElem? (i := 767) (by decide +kernel), List.mem_of_getElem? (i := 1015) (by decide +kernel), List.mem_of_getElem? (i := 1016) (by decide +kernel)⟩
theorem lw_p63 : lw_okq (⟨"TaskShareModel", "doneBy", "(I)I"⟩, 30) := ⟨⟨by decide +kernel, by decide +kernel⟩, List.mem_of_getElem? (i := 767) (by decide +kernel), List.mem_of_getElem? (i := 1023) (by decide +kernel), List.mem_of_getElem? (i := 1024) (by decide +kernel)⟩
def lw_privs_4 : List (MethodName × Nat) := [(⟨"TaskShareModel", "lateBy", "(II)I"⟩, 30), (⟨"TaskShareModel", "planByRule", "()V"⟩, 30), (⟨"TaskShareModel", "planOne", "(I)V"⟩, 30), (⟨"TaskShareModel", "may", "(II)Z"⟩, 30), (⟨"TaskShareModel", "behind", "(II)I"⟩, 30), (⟨"TaskShareModel", "load", "(I)I"⟩, 30), (⟨"TaskShareModel", "planExactly", "()V"⟩, 30), (⟨"TaskShareModel", "findOrder", "(II)V"⟩, 30), (⟨"TaskShareModel", "tryOrder", "(II)I"⟩, 30), (⟨"TaskShareModel", "startsAreLess", "(II)Z"⟩, 30), (⟨"TaskShareModel", "nextOrder", "(I)Z"⟩, 30), (⟨"TaskShareModel", "swap", "(II)V"⟩, 30), (⟨"TaskShareModel", "costOf", "()I"⟩, 30), (⟨"TaskShareModel", "setOf", "(I)I"⟩, 30), (⟨"TaskShareModel", "planned", "(II)I"⟩, 30), (⟨"TaskShareModel", "doneBy", "(I)I"⟩, 30)]
theorem lw_r4 : ∀ q ∈ lw_privs_4, lw_okq q := List.forall_mem_cons.mpr ⟨lw_p48, List.forall_mem_cons.mpr ⟨lw_p49, List.forall_mem_cons.mpr ⟨lw_p50, List.forall_mem_cons.mpr ⟨lw_p51, List.forall_mem_cons.mpr ⟨lw_p52, List.forall_mem_cons.mpr ⟨lw_p53, List.forall_mem_cons.mpr ⟨lw_p54, List.forall_mem_cons.mpr ⟨lw_p55, List.forall_mem_cons.mpr ⟨lw_p56, List.forall_mem_cons.mpr ⟨lw_p57, List.forall_mem_cons.mpr ⟨lw_p58, List.forall_mem_cons.mpr ⟨lw_p59, List.forall_mem_cons.mpr ⟨lw_p60, List.forall_mem_cons.mpr ⟨lw_p61, List.forall_mem_cons.mpr ⟨lw_p62, List.forall_mem_cons.mpr ⟨lw_p63, fun _ h => absurd h List.not_mem_nil⟩⟩⟩⟩⟩⟩⟩⟩⟩⟩⟩⟩⟩⟩⟩⟩
def lw_privs : List (MethodName × Nat) := lw_privs_1 ++ (lw_privs_2 ++ (lw_privs_3 ++ (lw_privs_4)))
def lw_tbl : List Cond := k2_sels lw_privs ++ tables_1
theorem lw_privs_ok : ∀ q ∈ lw_privs, lw_okq q := by
  show ∀ q ∈ lw_privs_1 ++ (lw_privs_2 ++ (lw_privs_3 ++ (lw_privs_4))), lw_okq q
  exact List.forall_mem_append.mpr ⟨lw_r1, List.forall_mem_append.mpr ⟨lw_r2, List.forall_mem_append.mpr ⟨lw_r3, lw_r4⟩⟩⟩
-- ===== end of PART A; then your names; then what follows =====
end
section
/-! 02.exc: rows about a throw, out of the printed names (their section on exceptions), with the namespace written out -/
section Ends
variable {p : Program} {l : Launch} {e : Env} {R : Room} {s : State} {m : MethodId} {args : Array Value} {below : List Frame} {meth : Method} {c : Code} {H : Heap} {locs : List Loc} {cells slots : Nat} {Q : State → Prop}
variable {mc ms : Nat} {free : Addr → Prop} {A0 A1 : Nat → Prop} {H0 : Heap} {a : Array Value} {ls : Array Slot} {st0 rest : List Value}
theorem vx_frame {U : State} {k n : Nat} (h : s.sameButNew ({ U with vm := s.vm } : State) locs k n) : s.heap.size ≤ U.heap.size ∧ ∀ q : Nat, q < s.heap.size → (∀ z ∈ locs, z.base ≠ q) → U.heap[q]? = s.heap[q]? := by
  obtain ⟨-, h2, -, -, -, h6⟩ := h
  refine ⟨h2, fun q hq hz => ?_⟩
  obtain ⟨c9, e1, e2, e3, e4⟩ := h6 q _ (Array.getElem?_eq_getElem hq)
  have hs : c9.slots = (s.heap[q]).slots := Array.ext_getElem? fun i => e4 i fun hm => hz _ hm rfl
  have h9 : c9 = s.heap[q] := by
    rw [hs] at e2
    exact e2
  have e5 : U.heap[q]? = some c9 := e1
  rw [e5, h9, Array.getElem?_eq_getElem hq]
/-- the words of a throw but the four that speak of the heap -/
def vx_no (w : Cond) : Bool := decide (w ≠ .isRef (.static Bundle.tN "UNASSIGNED_STACK" Bundle.steD)) && decide (w ≠ .isRef (.static Bundle.tN "SUPPRESSED_SENTINEL" Bundle.listD)) && decide (w ≠ .laysStatic Bundle.tN "UNASSIGNED_STACK" Bundle.steD) && decide (w ≠ .laysStatic Bundle.tN "SUPPRESSED_SENTINEL" Bundle.listD)
def vx_at0 (own : String) (ic : Nat) (X : String) (names : List String) : List Cond := (Bundle.ownAtoms0 own ic X names).filter vx_no
def vx_atS (own : String) (ic : Nat) (X : String) (names : List String) : List Cond := (Bundle.ownAtoms own ic X names).filter vx_no
/-- a word that the tables alone decide, or a good one -/
def vx_ot (w : Cond) : Bool := w.onTables || goodWord w
theorem vx_ot_at {args a' : Array Value} {s U : State} {w : Cond} (hW : s.WarmedH U.vm) (hvm : s.vm = U.vm) (hg : vx_ot w = true) (h : w.before args s = true) : w.before a' U = true := by
  simp only [vx_ot, Bool.or_eq_true] at hg
  rcases hg with hg | hg
  · exact va_tabs hg hvm h
  · exact word_at hW (good_of_word hg) h
/-- a list's words: the good ones out of the method's own list, the others by premises of their own -/
theorem vx_hat {args : Array Value} {s : State} {L B : List Cond} (h1 : ∀ w ∈ L.filter goodWord, w.before args s = true) (h2 : ∀ w ∈ L.filter (fun w => !goodWord w), w ∈ B) (h3 : ∀ w ∈ B, w.before args s = true) : ∀ w ∈ L, w.before args s = true := by
  intro w hw
  by_cases g : goodWord w = true
  · exact h1 w (List.mem_filter.mpr ⟨hw, g⟩)
  · refine h3 w (h2 w (List.mem_filter.mpr ⟨hw, ?_⟩))
    show (!goodWord w) = true
    cases hgw : goodWord w
    · rfl
    · exact absurd hgw g
theorem vx_c {args : Array Value} {s : State} {w : Cond} {B : List Cond} (h : w.before args s = true) (t : ∀ w ∈ B, w.before args s = true) : ∀ w' ∈ w :: B, w'.before args s = true := fun w' h' => (List.mem_cons.mp h').elim (fun e => by rw [e]; exact h) (t w')
theorem vx_n {args : Array Value} {s : State} : ∀ w ∈ ([] : List Cond), w.before args s = true := fun _ h => nomatch h
theorem vx_own {args : Array Value} {s : State} {L : List Cond} (h1 : ∀ w ∈ L.filter vx_no, w.before args s = true)
    (hU : (Cond.isRef (.static Bundle.tN "UNASSIGNED_STACK" Bundle.steD)).before args s = true) (hN : (Cond.isRef (.static Bundle.tN "SUPPRESSED_SENTINEL" Bundle.listD)).before args s = true)
    (lU : (Cond.laysStatic Bundle.tN "UNASSIGNED_STACK" Bundle.steD).before args s = true) (lN : (Cond.laysStatic Bundle.tN "SUPPRESSED_SENTINEL" Bundle.listD).before args s = true) : ∀ w ∈ L, w.before args s = true := by
  intro w hw
  by_cases e1 : w = .isRef (.static Bundle.tN "UNASSIGNED_STACK" Bundle.steD)
  · rw [e1]; exact hU
  · by_cases e2 : w = .isRef (.static Bundle.tN "SUPPRESSED_SENTINEL" Bundle.listD)
    · rw [e2]; exact hN
    · by_cases e3 : w = .laysStatic Bundle.tN "UNASSIGNED_STACK" Bundle.steD
      · rw [e3]; exact lU
      · by_cases e4 : w = .laysStatic Bundle.tN "SUPPRESSED_SENTINEL" Bundle.listD
        · rw [e4]; exact lN
        · exact h1 w (List.mem_filter.mpr ⟨hw, by unfold vx_no; rw [decide_eq_true e1, decide_eq_true e2, decide_eq_true e3, decide_eq_true e4]; rfl⟩)
/-- where a static field lies, its class's statics cell in H -/
def vx_L (C n d : String) (A : Nat → Prop) (U : State) (H : Heap) : Prop := ∃ (c : ClassId) (k : Class) (i : Nat) (f : Field) (a : Nat) (cell : Cell), U.vm.findClass C = some c ∧ U.fieldFound? C n d = some (c, k, i, f) ∧ f.isStatic = true ∧ k.statics = some a ∧ H[a]? = some cell ∧ cell.vm.isStatics = true ∧ cell.cls = c ∧ f.slot < cell.slots.size ∧ k.staticTypes[f.slot]? = some f.type ∧ ¬ A a
theorem vx_L.moved {C n d : String} {A : Nat → Prop} {u U : State} {H : Heap} (hvm : u.vm.Alike U.vm) (h : vx_L C n d A u H) : vx_L C n d A U H := by
  obtain ⟨c, k, i, f, a, cell, h1, h2, h3, h4, h5, h6, h7, h8, h9, h10⟩ := h
  obtain ⟨k', hi', he⟩ := State.fieldFound?_setVm hvm h2
  exact ⟨c, k', i, f, a, cell, by rw [hvm.findClass]; exact h1, hi', h3, by rw [he]; exact h4, h5, h6, h7, h8, by rw [he]; exact h9, h10⟩
theorem vx_L.kept {C n d : String} {A : Nat → Prop} {U : State} {H H1 : Heap} (h : vx_L C n d A U H) (hq : ∀ a : Nat, a < H.size → ¬ A a → H1[a]? = H[a]?) : vx_L C n d A U H1 := by
  obtain ⟨c, k, i, f, a, cell, h1, h2, h3, h4, h5, h6, h7, h8, h9, h10⟩ := h
  exact ⟨c, k, i, f, a, cell, h1, h2, h3, h4, by rw [hq a (Array.getElem?_eq_some_iff.mp h5).1 h10]; exact h5, h6, h7, h8, h9, h10⟩
theorem vx_L.narrow {C n d : String} {A B : Nat → Prop} {U : State} {H : Heap} (h : vx_L C n d A U H) (hAB : ∀ q, B q → A q) : vx_L C n d B U H := by
  obtain ⟨c, k, i, f, a, cell, h1, h2, h3, h4, h5, h6, h7, h8, h9, h10⟩ := h
  exact ⟨c, k, i, f, a, cell, h1, h2, h3, h4, h5, h6, h7, h8, h9, fun z => h10 (hAB _ z)⟩
theorem vx_L.word {C n d : String} {A : Nat → Prop} {s : State} {args : Array Value} (h : vx_L C n d A s s.heap) : (Cond.laysStatic C n d).before args s = true := by
  obtain ⟨c, k, i, f, a, cell, h1, h2, h3, h4, h5, h6, h7, h8, h9, -⟩ := h
  show (Cond.laysStatic C n d).holds args s none s [] = true
  exact Cond.laysStatic_of h1 h2 h3 h4 h5 h6 h7 h8 h9
/-- .. and what it holds: null or some reference -/
def vx_Zq (C n d : String) (A : Nat → Prop) (U : State) (H : Heap) : Prop := va_Zq C n d A U H ∧ vx_L C n d A U H
theorem vx_Zq.moved {C n d : String} {A : Nat → Prop} {u U : State} {H : Heap} (hvm : u.vm.Alike U.vm) (h : vx_Zq C n d A u H) : vx_Zq C n d A U H := ⟨va_Zq.moved hvm h.1, vx_L.moved hvm h.2⟩
theorem vx_Zq.kept {C n d : String} {A : Nat → Prop} {U : State} {H H1 : Heap} (h : vx_Zq C n d A U H) (hq : ∀ a : Nat, a < H.size → ¬ A a → H1[a]? = H[a]?) : vx_Zq C n d A U H1 := ⟨va_Zq.kept h.1 hq, vx_L.kept h.2 hq⟩
theorem vx_Zq.narrow {C n d : String} {A B : Nat → Prop} {U : State} {H : Heap} (h : vx_Zq C n d A U H) (hAB : ∀ q, B q → A q) : vx_Zq C n d B U H := ⟨va_Zq.narrow h.1 hAB, vx_L.narrow h.2 hAB⟩
theorem vx_Zqof {args : Array Value} {s : State} {C n d : String} {A : Nat → Prop} (hl : (Cond.laysStatic C n d).before args s = true) (hini : (Cond.initialized C).before args s = true) (h : (Cond.isRef (.static C n d)).before args s = true) (hA : ∀ a : Nat, a < s.heap.size → ¬ A a) : vx_Zq C n d A s s.heap := by
  refine ⟨va_Zqof hl hini h hA, ?_⟩
  obtain ⟨c, k, i, f, a, cell, h1, h2, h3, h4, h5, h6, h7, h8, h9⟩ := Cond.laysStatic_spec hl
  exact ⟨c, k, i, f, a, cell, h1, h2, h3, h4, h5, h6, h7, h8, h9, hA a (Array.getElem?_eq_some_iff.mp h5).1⟩
theorem vx_isRef {C n d : String} {v : Value} {A : Nat → Prop} {s : State} {args : Array Value} (h : va_Z C n d v A s s.heap) (hv : v.isRef = true) : (Cond.isRef (.static C n d)).before args s = true := by
  obtain ⟨cf, kf, fi, f, a, cell, h1, h2, h3, h4, h5, h6, h7, -⟩ := h
  have he : (Term.static C n d).eval args s none [] s = some v := by
    simp [Term.eval, State.fieldNamed?, h1, h2, h4, h5, h6, h7]
  simp only [Cond.before, Cond.holds, Cond.value, he]
  cases v <;> simp_all [Value.isRef]
theorem vx_isRefq {C n d : String} {A : Nat → Prop} {s : State} {args : Array Value} (h : va_Zq C n d A s s.heap) : (Cond.isRef (.static C n d)).before args s = true := by
  rcases h with h | ⟨t, h⟩
  · exact vx_isRef h rfl
  · exact vx_isRef h rfl
/-- the same frame, seen from here: as if the method were called anew in this heap -/
theorem vx_rebase {T : State} (X : Stand p l e R s m args below meth c T locs cells slots) {R' : Room} (hf : R'.frames ≤ R.frames) (hl : R'.locals ≤ R.locals) (hc : cells + R'.cells ≤ R.cells) (hs : slots + R'.slots ≤ R.slots) :
    Stand p l e R' ((T.setVm s.vm).setFrames (.invoking m args :: below)) m args below meth c T [] 0 0 := by
  have htop : (T.setVm s.vm).topJava?.isSome := X.here.top
  have hF : ((T.setVm s.vm).setFrames (.invoking m args :: below)).frames = .invoking m args :: below := State.frames_setFrames _ (State.cur_lt_of_top htop)
  obtain ⟨g₀, hg0⟩ := Option.isSome_iff_exists.mp htop
  obtain ⟨r, hr⟩ := State.topJava?_eq_some.mp hg0
  have hl9 : e.platform.stackLimits (T.setVm s.vm).me = e.platform.stackLimits s.me := X.limits
  have hb9 : (T.setVm s.vm).me.stackBytes = s.me.stackBytes := X.bytes
  refine ⟨X.admits, X.cas, X.clock, hF, ?_, X.hears, X.method, X.code, X.here, X.tail, X.warmed, ?_, ?_, ?_⟩
  · have h := X.room
    have hU : ((T.setVm s.vm).setFrames (.invoking m args :: below)).localsInUse = s.localsInUse := by
      rw [State.localsInUse_invoking hF (meth := meth) (c := c) X.method X.code, State.localsInUse_invoking X.frames X.method X.code]
    simp only [State.hasRoom, Bool.and_eq_true, decide_eq_true_eq] at h ⊢
    obtain ⟨⟨⟨⟨h1, h2, h3, h4, h5, h6⟩, h7⟩, h8⟩, h9⟩ := h
    rw [X.frames, List.length_cons] at h2 h3
    have q1 := X.heapSize
    have q2 := X.used
    simp only [hF, hU, List.length_cons, State.stackLimits_setFrames, State.stackBytes_setFrames, hl9, hb9]
    refine ⟨⟨⟨⟨by omega, by omega, by omega, by omega, by omega, h6⟩, ?_⟩, ?_⟩, X.book⟩
    · show T.heap.size + R'.cells ≤ e.platform.maxCells
      omega
    · show T.slotsUsed + R'.slots ≤ e.platform.maxSlots
      omega
  · rw [State.stackLimits_setFrames]; rfl
  · rw [State.stackBytes_setFrames]; rfl
  · refine ⟨?_, Nat.le_refl _, Nat.le_refl _, ?_, ?_, fun a c9 h9 => ⟨c9, h9, rfl, rfl, fun _ _ => rfl⟩⟩
    · obtain ⟨t, ht, -⟩ := State.frames_cons hr
      show T.setVm s.vm = { ((T.setVm s.vm).setFrames (.invoking m args :: below)).setFrames (T.setVm s.vm).frames with heap := T.heap, slotsUsed := T.slotsUsed }
      rw [State.setFrames_setFrames, State.setFrames_self ht]
      rfl
    · show T.slotsUsed = T.slotsUsed + ((T.heap.toList.drop T.heap.size).map (·.slots.size)).sum
      rw [List.drop_eq_nil_of_le (Nat.le_of_eq Array.length_toList)]
      rfl
    · show ((T.heap.toList.drop T.heap.size).map (·.slots.size)).sum ≤ 0
      rw [List.drop_eq_nil_of_le (Nat.le_of_eq Array.length_toList)]
      exact Nat.le_refl _
end Ends
end
section
/-! 05.defs: the words of the logic -/
/-- next address, cells left, slots left, kind of an address, length of an array, values of fields and elements -/
abbrev jx_W : Type := Nat × Nat × Nat × (Nat → Nat) × (Nat → Nat) × (Nat → Nat → Value)
def jx_n (w : jx_W) : Nat := w.1
def jx_c (w : jx_W) : Nat := w.2.1
def jx_s (w : jx_W) : Nat := w.2.2.1
def jx_k (w : jx_W) : Nat → Nat := w.2.2.2.1
def jx_l (w : jx_W) : Nat → Nat := w.2.2.2.2.1
def jx_v (w : jx_W) : Nat → Nat → Value := w.2.2.2.2.2
def jx_put (w : jx_W) (a j : Nat) (v : Value) : jx_W := (jx_n w, jx_c w, jx_s w, jx_k w, jx_l w, fun b i => if b = a ∧ i = j then v else jx_v w b i)
def jx_new (w : jx_W) (kd len sl : Nat) (f : Nat → Value) : jx_W := (jx_n w + 1, jx_c w - 1, jx_s w - sl, fun b => if b = jx_n w then kd else jx_k w b, fun b => if b = jx_n w then len else jx_l w b, fun b => if b = jx_n w then f else jx_v w b)
def jx_skip (w : jx_W) (sl : Nat) : jx_W := (jx_n w + 1, jx_c w - 1, jx_s w - sl, jx_k w, jx_l w, jx_v w)
/-- the law's own start, the classes' numbers and slots, the classes -/
abbrev jx_E : Type := State × va_G × List vw_C
/-- the type of the elements of an array of kind 100 and on -/
def jx_ty (k : Nat) : FieldType := if k = 100 then .int else if k = 101 then .long else if k = 102 then .boolean else if k = 103 then .array .int else if k = 104 then .array .long else .object "java/lang/Object"
def jx_obj (E : jx_E) (k : Nat) (V : Nat → Value) (cell : Cell) : Prop := cell.vm = .none ∧ cell.cls = E.2.1.1 (k - 1) ∧ ∃ q : vw_C, E.2.2[k - 1]? = some q ∧ ∀ j, j < q.2.2 → cell.slots[E.2.1.2 (k - 1) j]? = some (V j)
def jx_arr (E : jx_E) (k n : Nat) (V : Nat → Value) (cell : Cell) : Prop := (k = 105 → E.1.vm.findClass "[Ljava/lang/Object;" = some cell.cls) ∧ cell.vm ≠ .unknown ∧ E.1.isArrayOf cell (jx_ty k) ∧ cell.slots.size = n ∧ ∀ j, j < n → cell.slots[j]? = some (V j)
def jx_pic (E : jx_E) (k n : Nat) (V : Nat → Value) (cell : Cell) : Prop := if k < 100 then jx_obj E k V cell else jx_arr E k n V cell
def jx_old (E : jx_E) (H : Heap) : Prop := E.1.heap.size ≤ H.size ∧ ∀ q : Nat, q < E.1.heap.size → H[q]? = E.1.heap[q]?
/-- the heap holds the world -/
def jx_H (E : jx_E) (w : jx_W) (H : Heap) : Prop := H.size = jx_n w ∧ jx_old E H ∧ ∀ a : Nat, jx_k w a ≠ 0 → ∃ cell, H[a]? = some cell ∧ jx_pic E (jx_k w a) (jx_l w a) (jx_v w a) cell
/-- what the tables say of the classes at the law's start -/
def jx_OK (E : jx_E) : Prop := ∀ (c : Nat) (q : vw_C), E.2.2[c]? = some q → u_Kn E.1 q.1 q.2.1 q.2.2 (E.2.1.1 c) (E.2.1.2 c) ∧ (∀ k, k < q.2.2 → (u_lay q.1 q.2.1 k).before #[] E.1 = true) ∧ ∀ i j, i < q.2.2 → j < q.2.2 → i ≠ j → E.2.1.2 c i ≠ E.2.1.2 c j
/-- a method: its class, its name, its code, its locals, what it returns, its handlers -/
abbrev jx_Y : Type := String × String × ByteArray × Nat × Option FieldType × List (Nat × Nat × Nat × Nat)
/-- an exception's class, or what is returned -/
abbrev jx_R : Type := (Nat × Nat) ⊕ Option Value
def jx_xn (x : Nat) : String := if x = 0 then "java/util/NoSuchElementException" else if x = 1 then "java/lang/IllegalArgumentException" else if x = 2 then "java/lang/IllegalStateException" else "java/lang/UnsupportedOperationException"
/-- the entry idx of own's pool is the field k of the class ci -/
def jx_F (E : jx_E) (own : String) (idx ci k : Nat) : Prop := ci < 99 ∧ ∃ q : vw_C, E.2.2[ci]? = some q ∧ k < q.2.2 ∧ ∃ ref : String, (ref = (q.2.1 k).1 ∨ (Jvm.Cond.sameField ref (q.2.1 k).1 (q.2.1 k).2.1 (q.2.1 k).2.2.1).before #[] E.1 = true) ∧ ((Jvm.Cond.fieldLink own idx ref (q.2.1 k).2.1 (q.2.1 k).2.2.1).before #[] E.1 = true ∨ ∃ host : String, (Jvm.Cond.fieldLinkNest own idx ref (q.2.1 k).2.1 (q.2.1 k).2.2.1 host).before #[] E.1 = true)
/-- its type; whether it is final -/
def jx_Ft (E : jx_E) (ci k : Nat) (ty : FieldType) (fin : Bool) : Prop := ∃ q : vw_C, E.2.2[ci]? = some q ∧ parseFieldDescriptor (q.2.1 k).2.2.1 = some ty ∧ (q.2.1 k).2.2.2 = fin
/-- the entry idx of own's pool is the class ci, of n fields; a new one holds f -/
def jx_N (E : jx_E) (own : String) (idx ci n : Nat) (f : Nat → Value) : Prop := ci < 99 ∧ ∃ q : vw_C, E.2.2[ci]? = some q ∧ q.2.2 = n ∧ (Jvm.Cond.classLink own idx q.1).before #[] E.1 = true ∧ (Jvm.Cond.instantiable q.1 n).before #[] E.1 = true ∧ (Jvm.Cond.initialized q.1).before #[] E.1 = true ∧ ∃ ty : Nat → FieldType, (∀ k, k < n → parseFieldDescriptor (q.2.1 k).2.2.1 = some (ty k)) ∧ ∀ k, k < n → defaultValue (ty k) = f k
/-- the word of a method's code -/
def jx_cw (z : MethodName) (Z : jx_Y) : Jvm.Cond := if Z.2.2.2.2.2.isEmpty = true then .code z Z.2.2.1 Z.2.2.2.1 Z.2.2.2.2.1 else .codeWith z Z.2.2.1 Z.2.2.2.1 Z.2.2.2.2.1 Z.2.2.2.2.2
/-- z is the method Z, of n parameters -/
def jx_M (E : jx_E) (z : MethodName) (Z : jx_Y) (n : Nat) : Prop := plainFor z = true ∧ z.cls = Z.1 ∧ z.name = Z.2.1 ∧ (jx_cw z Z).before #[] E.1 = true ∧ (Jvm.Cond.initialized z.cls).before #[] E.1 = true ∧ Z.2.2.2.1 ≤ 40 ∧ (z.cls ≠ "java/lang/invoke/MethodHandle" ∧ z.cls ≠ "java/lang/invoke/VarHandle") ∧ (parseMethodDescriptor z.desc).map (fun d => d.parameters.length) = some n
/-- the entry idx of own's pool is the method z, called on an object of the class C -/
def jx_V (E : jx_E) (own : String) (idx : Nat) (z : MethodName) (C : String) : Prop := ((Jvm.Cond.methodLink own idx z).before #[] E.1 = true ∨ ∃ host : String, (Jvm.Cond.methodLinkNest own idx z host).before #[] E.1 = true) ∧ (Jvm.Cond.instanceMethod z).before #[] E.1 = true ∧ (Jvm.Cond.selects C z z).before #[] E.1 = true
def jx_S (E : jx_E) (own : String) (idx : Nat) (z : MethodName) : Prop := ((Jvm.Cond.methodLink own idx z).before #[] E.1 = true ∨ ∃ host : String, (Jvm.Cond.methodLinkNest own idx z host).before #[] E.1 = true) ∧ (Jvm.Cond.static z).before #[] E.1 = true
def jx_I (E : jx_E) (own : String) (idx : Nat) (z : MethodName) : Prop := ((Jvm.Cond.methodLink own idx z).before #[] E.1 = true ∨ ∃ host : String, (Jvm.Cond.methodLinkNest own idx z host).before #[] E.1 = true) ∧ (Jvm.Cond.instanceMethod z).before #[] E.1 = true
def jx_good (q : Jvm.Cond) : Bool := q.onTables && (q.keepsH || (match q with | .castable .. => true | .declares .. => true | _ => false))
/-- what the tables say of 'throw new E("text")': the class x by the entry ik, the text by the entry is, the constructor by the entry ic -/
def jx_X (E : jx_E) (own : String) (ik is ic x : Nat) (names : List String) : Prop :=
  Bundle.fit (jx_xn x) = true ∧ (∀ n ∈ names, Bundle.fit n = true) ∧ (Jvm.Cond.classLink own ik (jx_xn x)).before #[] E.1 = true ∧ (Jvm.Cond.initialized (jx_xn x)).before #[] E.1 = true ∧ (∃ (text : String) (sa : Nat), vk_R own is text sa E.1) ∧
  (∀ q ∈ vx_atS own ic (jx_xn x) names, jx_good q = true ∧ q.before #[] E.1 = true) ∧ vx_Zq Bundle.tN "UNASSIGNED_STACK" Bundle.steD (fun q => E.1.heap.size ≤ q) E.1 E.1.heap ∧ vx_Zq Bundle.tN "SUPPRESSED_SENTINEL" Bundle.listD (fun q => E.1.heap.size ≤ q) E.1 E.1.heap
end
section
/-! 06.names: the classes (0 0 TaskShare, 1 TaskShare$ExactPlanner, 2 TaskShare$Person, 3 TaskShare$Task, 4 TaskShare$Ways, 5 TaskShareModel, 6 java/util/ArrayList), their fields by the order of the tables; the methods -/
def jx_T0 : u_T := fun k => match k with
  | 0 => ("TaskShare", "persons", "Ljava/util/ArrayList;", true)
  | 1 => ("TaskShare", "tasks", "Ljava/util/ArrayList;", true)
  | 2 => ("TaskShare", "openByDue", "Ljava/util/ArrayList;", true)
  | 3 => ("TaskShare", "ways", "LTaskShare$Ways;", true)
  | 4 => ("TaskShare", "exactPlanner", "LTaskShare$ExactPlanner;", true)
  | 5 => ("TaskShare", "now", "I", false)
  | _ => ("TaskShare", "lastPlanWasExact", "Z", false)
def jx_t0 : Nat → FieldType := fun k => match k with
  | 0 => .object "java/util/ArrayList"
  | 1 => .object "java/util/ArrayList"
  | 2 => .object "java/util/ArrayList"
  | 3 => .object "TaskShare$Ways"
  | 4 => .object "TaskShare$ExactPlanner"
  | 5 => .int
  | _ => .boolean
def jx_d0 : Nat → Value := fun k => match k with
  | 0 => .null
  | 1 => .null
  | 2 => .null
  | 3 => .null
  | 4 => .null
  | 5 => .int 0
  | _ => .int 0
abbrev jx_q0 : vw_C := ("TaskShare", jx_T0, 7)
theorem jx_t0_ok : ∀ k, k < 7 → parseFieldDescriptor (jx_T0 k).2.2.1 = some (jx_t0 k) := by decide +kernel
theorem jx_d0_ok : ∀ k, k < 7 → defaultValue (jx_t0 k) = jx_d0 k := by decide +kernel
theorem jx_n0_ok : ∀ a, a < 7 → ∀ b, b < 7 → a ≠ b → (jx_T0 a).2.1 ≠ (jx_T0 b).2.1 := by decide +kernel
def jx_T1 : u_T := fun k => match k with
  | 0 => ("TaskShare$ExactPlanner", "open", "Ljava/util/ArrayList;", true)
  | 1 => ("TaskShare$ExactPlanner", "lateness", "[[I", true)
  | 2 => ("TaskShare$ExactPlanner", "starts", "[[I", true)
  | 3 => ("TaskShare$ExactPlanner", "tried", "[I", true)
  | 4 => ("TaskShare$ExactPlanner", "values", "[I", true)
  | 5 => ("TaskShare$ExactPlanner", "ranks", "[[J", true)
  | 6 => ("TaskShare$ExactPlanner", "chosen", "[[I", true)
  | _ => ("TaskShare$ExactPlanner", "setCount", "I", false)
def jx_t1 : Nat → FieldType := fun k => match k with
  | 0 => .object "java/util/ArrayList"
  | 1 => .array (.array .int)
  | 2 => .array (.array .int)
  | 3 => .array .int
  | 4 => .array .int
  | 5 => .array (.array .long)
  | 6 => .array (.array .int)
  | _ => .int
def jx_d1 : Nat → Value := fun k => match k with
  | 0 => .null
  | 1 => .null
  | 2 => .null
  | 3 => .null
  | 4 => .null
  | 5 => .null
  | 6 => .null
  | _ => .int 0
abbrev jx_q1 : vw_C := ("TaskShare$ExactPlanner", jx_T1, 8)
theorem jx_t1_ok : ∀ k, k < 8 → parseFieldDescriptor (jx_T1 k).2.2.1 = some (jx_t1 k) := by decide +kernel
theorem jx_d1_ok : ∀ k, k < 8 → defaultValue (jx_t1 k) = jx_d1 k := by decide +kernel
theorem jx_n1_ok : ∀ a, a < 8 → ∀ b, b < 8 → a ≠ b → (jx_T1 a).2.1 ≠ (jx_T1 b).2.1 := by decide +kernel
def jx_T2 : u_T := fun k => match k with
  | 0 => ("TaskShare$Person", "number", "I", true)
  | 1 => ("TaskShare$Person", "from", "I", true)
  | 2 => ("TaskShare$Person", "to", "I", true)
  | 3 => ("TaskShare$Person", "skills", "I", false)
  | 4 => ("TaskShare$Person", "zone", "I", false)
  | 5 => ("TaskShare$Person", "restFrom", "I", false)
  | 6 => ("TaskShare$Person", "restTo", "I", false)
  | 7 => ("TaskShare$Person", "here", "Z", false)
  | 8 => ("TaskShare$Person", "begun", "I", false)
  | 9 => ("TaskShare$Person", "busyUntil", "I", false)
  | 10 => ("TaskShare$Person", "refused", "I", false)
  | 11 => ("TaskShare$Person", "rowEnd", "I", false)
  | 12 => ("TaskShare$Person", "rowZone", "I", false)
  | _ => ("TaskShare$Person", "load", "I", false)
def jx_t2 : Nat → FieldType := fun k => match k with
  | 0 => .int
  | 1 => .int
  | 2 => .int
  | 3 => .int
  | 4 => .int
  | 5 => .int
  | 6 => .int
  | 7 => .boolean
  | 8 => .int
  | 9 => .int
  | 10 => .int
  | 11 => .int
  | 12 => .int
  | _ => .int
def jx_d2 : Nat → Value := fun k => match k with
  | 0 => .int 0
  | 1 => .int 0
  | 2 => .int 0
  | 3 => .int 0
  | 4 => .int 0
  | 5 => .int 0
  | 6 => .int 0
  | 7 => .int 0
  | 8 => .int 0
  | 9 => .int 0
  | 10 => .int 0
  | 11 => .int 0
  | 12 => .int 0
  | _ => .int 0
abbrev jx_q2 : vw_C := ("TaskShare$Person", jx_T2, 14)
theorem jx_t2_ok : ∀ k, k < 14 → parseFieldDescriptor (jx_T2 k).2.2.1 = some (jx_t2 k) := by decide +kernel
theorem jx_d2_ok : ∀ k, k < 14 → defaultValue (jx_t2 k) = jx_d2 k := by decide +kernel
theorem jx_n2_ok : ∀ a, a < 14 → ∀ b, b < 14 → a ≠ b → (jx_T2 a).2.1 ≠ (jx_T2 b).2.1 := by decide +kernel
def jx_T3 : u_T := fun k => match k with
  | 0 => ("TaskShare$Task", "number", "I", true)
  | 1 => ("TaskShare$Task", "skill", "I", true)
  | 2 => ("TaskShare$Task", "seconds", "I", true)
  | 3 => ("TaskShare$Task", "due", "I", true)
  | 4 => ("TaskShare$Task", "zone", "I", true)
  | 5 => ("TaskShare$Task", "state", "I", false)
  | 6 => ("TaskShare$Task", "person", "I", false)
  | _ => ("TaskShare$Task", "start", "I", false)
def jx_t3 : Nat → FieldType := fun k => match k with
  | 0 => .int
  | 1 => .int
  | 2 => .int
  | 3 => .int
  | 4 => .int
  | 5 => .int
  | 6 => .int
  | _ => .int
def jx_d3 : Nat → Value := fun k => match k with
  | 0 => .int 0
  | 1 => .int 0
  | 2 => .int 0
  | 3 => .int 0
  | 4 => .int 0
  | 5 => .int 0
  | 6 => .int 0
  | _ => .int 0
abbrev jx_q3 : vw_C := ("TaskShare$Task", jx_T3, 8)
theorem jx_t3_ok : ∀ k, k < 8 → parseFieldDescriptor (jx_T3 k).2.2.1 = some (jx_t3 k) := by decide +kernel
theorem jx_d3_ok : ∀ k, k < 8 → defaultValue (jx_t3 k) = jx_d3 k := by decide +kernel
theorem jx_n3_ok : ∀ a, a < 8 → ∀ b, b < 8 → a ≠ b → (jx_T3 a).2.1 ≠ (jx_T3 b).2.1 := by decide +kernel
def jx_T4 : u_T := fun k => match k with
  | _ => ("TaskShare$Ways", "seconds", "[I", true)
def jx_t4 : Nat → FieldType := fun k => match k with
  | _ => .array .int
def jx_d4 : Nat → Value := fun k => match k with
  | _ => .null
abbrev jx_q4 : vw_C := ("TaskShare$Ways", jx_T4, 1)
theorem jx_t4_ok : ∀ k, k < 1 → parseFieldDescriptor (jx_T4 k).2.2.1 = some (jx_t4 k) := by decide +kernel
theorem jx_d4_ok : ∀ k, k < 1 → defaultValue (jx_t4 k) = jx_d4 k := by decide +kernel
theorem jx_n4_ok : ∀ a, a < 1 → ∀ b, b < 1 → a ≠ b → (jx_T4 a).2.1 ≠ (jx_T4 b).2.1 := by decide +kernel
def jx_T5 : u_T := fun k => match k with
  | 0 => ("TaskShareModel", "persons", "I", false)
  | 1 => ("TaskShareModel", "tasks", "I", false)
  | 2 => ("TaskShareModel", "now", "I", false)
  | 3 => ("TaskShareModel", "thrown", "I", false)
  | 4 => ("TaskShareModel", "skills", "[I", true)
  | 5 => ("TaskShareModel", "hoursFrom", "[I", true)
  | 6 => ("TaskShareModel", "hoursTo", "[I", true)
  | 7 => ("TaskShareModel", "breakFrom", "[I", true)
  | 8 => ("TaskShareModel", "breakTo", "[I", true)
  | 9 => ("TaskShareModel", "place", "[I", true)
  | 10 => ("TaskShareModel", "here", "[Z", true)
  | 11 => ("TaskShareModel", "begun", "[I", true)
  | 12 => ("TaskShareModel", "ways", "[I", true)
  | 13 => ("TaskShareModel", "state", "[I", true)
  | 14 => ("TaskShareModel", "skill", "[I", true)
  | 15 => ("TaskShareModel", "seconds", "[I", true)
  | 16 => ("TaskShareModel", "due", "[I", true)
  | 17 => ("TaskShareModel", "zone", "[I", true)
  | 18 => ("TaskShareModel", "refused", "[I", true)
  | 19 => ("TaskShareModel", "who", "[I", true)
  | 20 => ("TaskShareModel", "start", "[I", true)
  | 21 => ("TaskShareModel", "exact", "Z", false)
  | 22 => ("TaskShareModel", "few", "[I", true)
  | 23 => ("TaskShareModel", "fewMany", "I", false)
  | 24 => ("TaskShareModel", "lateness", "[I", true)
  | 25 => ("TaskShareModel", "starts", "[I", true)
  | 26 => ("TaskShareModel", "order", "[I", true)
  | 27 => ("TaskShareModel", "tried", "[I", true)
  | 28 => ("TaskShareModel", "choice", "[I", true)
  | _ => ("TaskShareModel", "best", "[I", true)
def jx_t5 : Nat → FieldType := fun k => match k with
  | 0 => .int
  | 1 => .int
  | 2 => .int
  | 3 => .int
  | 4 => .array .int
  | 5 => .array .int
  | 6 => .array .int
  | 7 => .array .int
  | 8 => .array .int
  | 9 => .array .int
  | 10 => .array .boolean
  | 11 => .array .int
  | 12 => .array .int
  | 13 => .array .int
  | 14 => .array .int
  | 15 => .array .int
  | 16 => .array .int
  | 17 => .array .int
  | 18 => .array .int
  | 19 => .array .int
  | 20 => .array .int
  | 21 => .boolean
  | 22 => .array .int
  | 23 => .int
  | 24 => .array .int
  | 25 => .array .int
  | 26 => .array .int
  | 27 => .array .int
  | 28 => .array .int
  | _ => .array .int
def jx_d5 : Nat → Value := fun k => match k with
  | 0 => .int 0
  | 1 => .int 0
  | 2 => .int 0
  | 3 => .int 0
  | 4 => .null
  | 5 => .null
  | 6 => .null
  | 7 => .null
  | 8 => .null
  | 9 => .null
  | 10 => .null
  | 11 => .null
  | 12 => .null
  | 13 => .null
  | 14 => .null
  | 15 => .null
  | 16 => .null
  | 17 => .null
  | 18 => .null
  | 19 => .null
  | 20 => .null
  | 21 => .int 0
  | 22 => .null
  | 23 => .int 0
  | 24 => .null
  | 25 => .null
  | 26 => .null
  | 27 => .null
  | 28 => .null
  | _ => .null
abbrev jx_q5 : vw_C := ("TaskShareModel", jx_T5, 30)
theorem jx_t5_ok : ∀ k, k < 30 → parseFieldDescriptor (jx_T5 k).2.2.1 = some (jx_t5 k) := by decide +kernel
theorem jx_d5_ok : ∀ k, k < 30 → defaultValue (jx_t5 k) = jx_d5 k := by decide +kernel
theorem jx_n5_ok : ∀ a, a < 30 → ∀ b, b < 30 → a ≠ b → (jx_T5 a).2.1 ≠ (jx_T5 b).2.1 := by decide +kernel
def jx_T6 : u_T := fun k => match k with
  | 0 => ("java/util/ArrayList", "elementData", "[Ljava/lang/Object;", false)
  | 1 => ("java/util/ArrayList", "size", "I", false)
  | _ => ("java/util/AbstractList", "modCount", "I", false)
def jx_t6 : Nat → FieldType := fun k => match k with
  | 0 => .array (.object "java/lang/Object")
  | 1 => .int
  | _ => .int
def jx_d6 : Nat → Value := fun k => match k with
  | 0 => .null
  | 1 => .int 0
  | _ => .int 0
abbrev jx_q6 : vw_C := ("java/util/ArrayList", jx_T6, 3)
theorem jx_t6_ok : ∀ k, k < 3 → parseFieldDescriptor (jx_T6 k).2.2.1 = some (jx_t6 k) := by decide +kernel
theorem jx_d6_ok : ∀ k, k < 3 → defaultValue (jx_t6 k) = jx_d6 k := by decide +kernel
theorem jx_n6_ok : ∀ a, a < 3 → ∀ b, b < 3 → a ≠ b → (jx_T6 a).2.1 ≠ (jx_T6 b).2.1 := by decide +kernel
abbrev jx_cl : List vw_C := [jx_q0, jx_q1, jx_q2, jx_q3, jx_q4, jx_q5, jx_q6]
def jx_strs : List (String × Nat × String) := [("TaskShare", 224, "a number outside its range"), ("TaskShare", 228, "no room"), ("TaskShare", 219, "no such person"), ("TaskShare", 84, "they have the skill"), ("TaskShare", 104, "a way within a zone"), ("TaskShare", 222, "no such task"), ("TaskShare", 231, "the task is not open"), ("TaskShare", 122, "they refused it"), ("TaskShare", 233, "they are gone or have begun a task"), ("TaskShare", 235, "they do not work now"), ("TaskShare", 201, "none begun, or its seconds are not over"), ("TaskShare", 206, "they are gone"), ("TaskShare", 208, "i is below 0"), ("TaskShare", 213, "what is outside 0 .. 6"), ("TaskShare", 215, "what is outside 0 .. 5")]
/-- what is known of the law's start -/
def jx_B (E : jx_E) : Prop := E.2.2 = jx_cl ∧ jx_OK E ∧ (∀ q ∈ lw_tbl, (q.onTables = true ∨ ∃ ty, q = .arrayClass ty) → q.before #[] E.1 = true) ∧ (∀ q ∈ jx_strs, ∃ sa, vk_R q.1 q.2.1 q.2.2 sa E.1) ∧ vx_Zq Bundle.tN "UNASSIGNED_STACK" Bundle.steD (fun q => E.1.heap.size ≤ q) E.1 E.1.heap ∧ vx_Zq Bundle.tN "SUPPRESSED_SENTINEL" Bundle.listD (fun q => E.1.heap.size ≤ q) E.1 E.1.heap
theorem jx_w {E : jx_E} (hB : jx_B E) {q : Jvm.Cond} (i : Nat) (h : tables_1[i]? = some q) (h2 : q.onTables = true) : q.before #[] E.1 = true := hB.2.2.1 q (List.mem_append_right _ (List.mem_of_getElem? h)) (Or.inl h2)
theorem jx_wa {E : jx_E} (hB : jx_B E) {t : FieldType} (i : Nat) (h : tables_1[i]? = some (.arrayClass t)) : (Jvm.Cond.arrayClass t).before #[] E.1 = true := hB.2.2.1 _ (List.mem_append_right _ (List.mem_of_getElem? h)) (Or.inr ⟨t, rfl⟩)
theorem jx_wp {E : jx_E} (hB : jx_B E) {z : MethodName} {n : Nat} (j : Nat) (h : lw_privs[j]? = some (z, n)) : (Jvm.Cond.selects z.cls z z).before #[] E.1 = true := hB.2.2.1 _ (List.mem_append_left _ (List.mem_map.mpr ⟨(z, n), List.mem_of_getElem? h, rfl⟩)) (Or.inl rfl)
abbrev z_T_init : MethodName := ⟨"TaskShare", "<init>", "()V"⟩
abbrev Y_T_init : jx_Y := ("TaskShare", "<init>", prog_1_method_1_code, 1, none, [])
abbrev z_A_init : MethodName := ⟨"java/util/ArrayList", "<init>", "()V"⟩
abbrev Y_A_init : jx_Y := ("java/util/ArrayList", "<init>", prog_23_method_2_code, 1, none, [])
abbrev z_JAbstractList_init : MethodName := ⟨"java/util/AbstractList", "<init>", "()V"⟩
abbrev Y_JAbstractList_init : jx_Y := ("java/util/AbstractList", "<init>", prog_22_method_1_code, 1, none, [])
abbrev z_JAbstractCollection_init : MethodName := ⟨"java/util/AbstractCollection", "<init>", "()V"⟩
abbrev Y_JAbstractCollection_init : jx_Y := ("java/util/AbstractCollection", "<init>", prog_21_method_1_code, 1, none, [])
abbrev z_Y_init : MethodName := ⟨"TaskShare$Ways", "<init>", "()V"⟩
abbrev Y_Y_init : jx_Y := ("TaskShare$Ways", "<init>", prog_5_method_1_code, 1, none, [])
abbrev z_X_init : MethodName := ⟨"TaskShare$ExactPlanner", "<init>", "()V"⟩
abbrev Y_X_init : jx_Y := ("TaskShare$ExactPlanner", "<init>", prog_2_method_1_code, 3, none, [])
abbrev z_T_exact : MethodName := ⟨"TaskShare", "exact", "()Z"⟩
abbrev Y_T_exact : jx_Y := ("TaskShare", "exact", prog_1_method_10_code, 1, (some FieldType.boolean), [])
abbrev z_T_bound : MethodName := ⟨"TaskShare", "bound", "()I"⟩
abbrev Y_T_bound : jx_Y := ("TaskShare", "bound", prog_1_method_11_code, 3, (some FieldType.int), [])
abbrev z_A_size : MethodName := ⟨"java/util/ArrayList", "size", "()I"⟩
abbrev Y_A_size : jx_Y := ("java/util/ArrayList", "size", prog_23_method_8_code, 1, (some FieldType.int), [])
abbrev z_A_get : MethodName := ⟨"java/util/ArrayList", "get", "(I)Ljava/lang/Object;"⟩
abbrev Y_A_get : jx_Y := ("java/util/ArrayList", "get", prog_23_method_20_code, 2, (some (FieldType.object "java/lang/Object")), [])
abbrev z_JObjects_checkIndex : MethodName := ⟨"java/util/Objects", "checkIndex", "(II)I"⟩
abbrev Y_JObjects_checkIndex : jx_Y := ("java/util/Objects", "checkIndex", prog_28_method_17_code, 2, (some FieldType.int), [])
abbrev z_JPreconditions_checkIndex : MethodName := ⟨"jdk/internal/util/Preconditions", "checkIndex", "(IILjava/util/function/BiFunction;)I"⟩
abbrev Y_JPreconditions_checkIndex : jx_Y := ("jdk/internal/util/Preconditions", "checkIndex", prog_32_method_11_code, 3, (some FieldType.int), [])
abbrev z_A_elementData : MethodName := ⟨"java/util/ArrayList", "elementData", "(I)Ljava/lang/Object;"⟩
abbrev Y_A_elementData : jx_Y := ("java/util/ArrayList", "elementData", prog_23_method_18_code, 2, (some (FieldType.object "java/lang/Object")), [])
abbrev z_T_leastLatenessAlone : MethodName := ⟨"TaskShare", "leastLatenessAlone", "(LTaskShare$Task;)I"⟩
abbrev Y_T_leastLatenessAlone : jx_Y := ("TaskShare", "leastLatenessAlone", prog_1_method_33_code, 6, (some FieldType.int), [])
abbrev z_P_may : MethodName := ⟨"TaskShare$Person", "may", "(LTaskShare$Task;)Z"⟩
abbrev Y_P_may : jx_Y := ("TaskShare$Person", "may", prog_3_method_4_code, 2, (some FieldType.boolean), [])
abbrev z_P_hasSkill : MethodName := ⟨"TaskShare$Person", "hasSkill", "(I)Z"⟩
abbrev Y_P_hasSkill : jx_Y := ("TaskShare$Person", "hasSkill", prog_3_method_2_code, 2, (some FieldType.boolean), [])
abbrev z_P_hasRefused : MethodName := ⟨"TaskShare$Person", "hasRefused", "(LTaskShare$Task;)Z"⟩
abbrev Y_P_hasRefused : jx_Y := ("TaskShare$Person", "hasRefused", prog_3_method_3_code, 2, (some FieldType.boolean), [])
abbrev z_T_startAsOnlyOne : MethodName := ⟨"TaskShare", "startAsOnlyOne", "(LTaskShare$Person;LTaskShare$Task;)I"⟩
abbrev Y_T_startAsOnlyOne : jx_Y := ("TaskShare", "startAsOnlyOne", prog_1_method_32_code, 3, (some FieldType.int), [])
abbrev z_P_freeFrom : MethodName := ⟨"TaskShare$Person", "freeFrom", "(I)I"⟩
abbrev Y_P_freeFrom : jx_Y := ("TaskShare$Person", "freeFrom", prog_3_method_5_code, 2, (some FieldType.int), [])
abbrev z_JMath_max : MethodName := ⟨"java/lang/Math", "max", "(II)I"⟩
abbrev Y_JMath_max : jx_Y := ("java/lang/Math", "max", prog_15_method_65_code, 2, (some FieldType.int), [])
abbrev z_P_startOf : MethodName := ⟨"TaskShare$Person", "startOf", "(LTaskShare$Task;IILTaskShare$Ways;)I"⟩
abbrev Y_P_startOf : jx_Y := ("TaskShare$Person", "startOf", prog_3_method_6_code, 6, (some FieldType.int), [])
abbrev z_Y_between : MethodName := ⟨"TaskShare$Ways", "between", "(II)I"⟩
abbrev Y_Y_between : jx_Y := ("TaskShare$Ways", "between", prog_5_method_3_code, 3, (some FieldType.int), [])
abbrev z_K_latenessFrom : MethodName := ⟨"TaskShare$Task", "latenessFrom", "(I)I"⟩
abbrev Y_K_latenessFrom : jx_Y := ("TaskShare$Task", "latenessFrom", prog_4_method_3_code, 2, (some FieldType.int), [])
abbrev z_JMath_min : MethodName := ⟨"java/lang/Math", "min", "(II)I"⟩
abbrev Y_JMath_min : jx_Y := ("java/lang/Math", "min", prog_15_method_69_code, 2, (some FieldType.int), [])
abbrev z_T_count : MethodName := ⟨"TaskShare", "count", "(I)I"⟩
abbrev Y_T_count : jx_Y := ("TaskShare", "count", prog_1_method_20_code, 2, (some FieldType.int), [])
abbrev z_T_tasksIn : MethodName := ⟨"TaskShare", "tasksIn", "(I)I"⟩
abbrev Y_T_tasksIn : jx_Y := ("TaskShare", "tasksIn", prog_1_method_27_code, 4, (some FieldType.int), [])
abbrev z_T_tasksOf : MethodName := ⟨"TaskShare", "tasksOf", "(II)I"⟩
abbrev Y_T_tasksOf : jx_Y := ("TaskShare", "tasksOf", prog_1_method_28_code, 5, (some FieldType.int), [])
abbrev z_K_isOf : MethodName := ⟨"TaskShare$Task", "isOf", "(II)Z"⟩
abbrev Y_K_isOf : jx_Y := ("TaskShare$Task", "isOf", prog_4_method_2_code, 3, (some FieldType.boolean), [])
abbrev z_T_latenessOfPlan : MethodName := ⟨"TaskShare", "latenessOfPlan", "()I"⟩
abbrev Y_T_latenessOfPlan : jx_Y := ("TaskShare", "latenessOfPlan", prog_1_method_29_code, 4, (some FieldType.int), [])
abbrev z_L_person : MethodName := ⟨"TaskShareLaw", "person", "(LTaskShare;IIII[J)I"⟩
abbrev Y_L_person : jx_Y := ("TaskShareLaw", "person", method_3_code, 7, (some FieldType.int), [(0, 14, 17, 13), (0, 14, 21, 15)])
abbrev z_T_person : MethodName := ⟨"TaskShare", "person", "(IIII)I"⟩
abbrev Y_T_person : jx_Y := ("TaskShare", "person", prog_1_method_2_code, 6, (some FieldType.int), [])
abbrev z_T_needWithin : MethodName := ⟨"TaskShare", "needWithin", "(III)V"⟩
abbrev Y_T_needWithin : jx_Y := ("TaskShare", "needWithin", prog_1_method_23_code, 3, none, [])
abbrev z_T_needRoom : MethodName := ⟨"TaskShare", "needRoom", "(II)V"⟩
abbrev Y_T_needRoom : jx_Y := ("TaskShare", "needRoom", prog_1_method_24_code, 2, none, [])
abbrev z_P_init : MethodName := ⟨"TaskShare$Person", "<init>", "(IIIII)V"⟩
abbrev Y_P_init : jx_Y := ("TaskShare$Person", "<init>", prog_3_method_1_code, 6, none, [])
abbrev z_A_add : MethodName := ⟨"java/util/ArrayList", "add", "(Ljava/lang/Object;)Z"⟩
abbrev Y_A_add : jx_Y := ("java/util/ArrayList", "add", prog_23_method_25_code, 2, (some FieldType.boolean), [])
abbrev z_A_add3 : MethodName := ⟨"java/util/ArrayList", "add", "(Ljava/lang/Object;[Ljava/lang/Object;I)V"⟩
abbrev Y_A_add3 : jx_Y := ("java/util/ArrayList", "add", prog_23_method_24_code, 4, none, [])
abbrev z_A_grow : MethodName := ⟨"java/util/ArrayList", "grow", "()[Ljava/lang/Object;"⟩
abbrev Y_A_grow : jx_Y := ("java/util/ArrayList", "grow", prog_23_method_7_code, 1, (some (FieldType.array (FieldType.object "java/lang/Object"))), [])
abbrev z_A_growBy : MethodName := ⟨"java/util/ArrayList", "grow", "(I)[Ljava/lang/Object;"⟩
abbrev Y_A_growBy : jx_Y := ("java/util/ArrayList", "grow", prog_23_method_6_code, 4, (some (FieldType.array (FieldType.object "java/lang/Object"))), [])
abbrev z_JArraysSupport_newLength : MethodName := ⟨"jdk/internal/util/ArraysSupport", "newLength", "(III)I"⟩
abbrev Y_JArraysSupport_newLength : jx_Y := ("jdk/internal/util/ArraysSupport", "newLength", prog_31_method_27_code, 4, (some FieldType.int), [])
abbrev z_JArraysSupport_hugeLength : MethodName := ⟨"jdk/internal/util/ArraysSupport", "hugeLength", "(II)I"⟩
abbrev Y_JArraysSupport_hugeLength : jx_Y := ("jdk/internal/util/ArraysSupport", "hugeLength", prog_31_method_28_code, 3, (some FieldType.int), [])
abbrev z_JArrays_copyOf : MethodName := ⟨"java/util/Arrays", "copyOf", "([Ljava/lang/Object;I)[Ljava/lang/Object;"⟩
abbrev Y_JArrays_copyOf : jx_Y := ("java/util/Arrays", "copyOf", prog_24_method_119_code, 2, (some (FieldType.array (FieldType.object "java/lang/Object"))), [])
abbrev z_JArrays_copyOf3 : MethodName := ⟨"java/util/Arrays", "copyOf", "([Ljava/lang/Object;ILjava/lang/Class;)[Ljava/lang/Object;"⟩
abbrev Y_JArrays_copyOf3 : jx_Y := ("java/util/Arrays", "copyOf", prog_24_method_120_code, 4, (some (FieldType.array (FieldType.object "java/lang/Object"))), [])
abbrev z_L_rest : MethodName := ⟨"TaskShareLaw", "rest", "(LTaskShare;III)I"⟩
abbrev Y_L_rest : jx_Y := ("TaskShareLaw", "rest", method_4_code, 5, (some FieldType.int), [(0, 7, 10, 21), (0, 7, 14, 13)])
abbrev z_T_rest : MethodName := ⟨"TaskShare", "rest", "(III)V"⟩
abbrev Y_T_rest : jx_Y := ("TaskShare", "rest", prog_1_method_3_code, 5, none, [])
abbrev z_T_personOf : MethodName := ⟨"TaskShare", "personOf", "(I)LTaskShare$Person;"⟩
abbrev Y_T_personOf : jx_Y := ("TaskShare", "personOf", prog_1_method_21_code, 2, (some (FieldType.object "TaskShare$Person")), [])
abbrev z_L_train : MethodName := ⟨"TaskShareLaw", "train", "(LTaskShare;II[J)I"⟩
abbrev Y_L_train : jx_Y := ("TaskShareLaw", "train", method_5_code, 5, (some FieldType.int), [(0, 10, 13, 21), (0, 10, 17, 13), (0, 10, 21, 27)])
abbrev z_T_train : MethodName := ⟨"TaskShare", "train", "(II)I"⟩
abbrev Y_T_train : jx_Y := ("TaskShare", "train", prog_1_method_4_code, 4, (some FieldType.int), [])
abbrev z_JInteger_bitCount : MethodName := ⟨"java/lang/Integer", "bitCount", "(I)I"⟩
abbrev Y_JInteger_bitCount : jx_Y := ("java/lang/Integer", "bitCount", prog_13_method_49_code, 1, (some FieldType.int), [])
abbrev z_L_task : MethodName := ⟨"TaskShareLaw", "task", "(LTaskShare;IIII[J)I"⟩
abbrev Y_L_task : jx_Y := ("TaskShareLaw", "task", method_6_code, 7, (some FieldType.int), [(0, 14, 17, 13), (0, 14, 21, 15)])
abbrev z_T_task : MethodName := ⟨"TaskShare", "task", "(IIII)I"⟩
abbrev Y_T_task : jx_Y := ("TaskShare", "task", prog_1_method_5_code, 6, (some FieldType.int), [])
abbrev z_K_init : MethodName := ⟨"TaskShare$Task", "<init>", "(IIIII)V"⟩
abbrev Y_K_init : jx_Y := ("TaskShare$Task", "<init>", prog_4_method_1_code, 6, none, [])
abbrev z_L_way : MethodName := ⟨"TaskShareLaw", "way", "(LTaskShare;III)I"⟩
abbrev Y_L_way : jx_Y := ("TaskShareLaw", "way", method_7_code, 5, (some FieldType.int), [(0, 7, 10, 13)])
abbrev z_T_way : MethodName := ⟨"TaskShare", "way", "(III)V"⟩
abbrev Y_T_way : jx_Y := ("TaskShare", "way", prog_1_method_6_code, 4, none, [])
abbrev z_Y_put : MethodName := ⟨"TaskShare$Ways", "put", "(III)V"⟩
abbrev Y_Y_put : jx_Y := ("TaskShare$Ways", "put", prog_5_method_2_code, 4, none, [])
abbrev z_L_refuse : MethodName := ⟨"TaskShareLaw", "refuse", "(LTaskShare;II[J)I"⟩
abbrev Y_L_refuse : jx_Y := ("TaskShareLaw", "refuse", method_8_code, 5, (some FieldType.int), [(0, 17, 20, 21), (0, 17, 24, 27)])
abbrev z_T_refuse : MethodName := ⟨"TaskShare", "refuse", "(II)Z"⟩
abbrev Y_T_refuse : jx_Y := ("TaskShare", "refuse", prog_1_method_7_code, 6, (some FieldType.boolean), [])
abbrev z_T_taskOf : MethodName := ⟨"TaskShare", "taskOf", "(I)LTaskShare$Task;"⟩
abbrev Y_T_taskOf : jx_Y := ("TaskShare", "taskOf", prog_1_method_22_code, 2, (some (FieldType.object "TaskShare$Task")), [])
abbrev z_T_needOpen : MethodName := ⟨"TaskShare", "needOpen", "(LTaskShare$Task;)V"⟩
abbrev Y_T_needOpen : jx_Y := ("TaskShare", "needOpen", prog_1_method_25_code, 1, none, [])
abbrev z_K_free : MethodName := ⟨"TaskShare$Task", "free", "()V"⟩
abbrev Y_K_free : jx_Y := ("TaskShare$Task", "free", prog_4_method_5_code, 1, none, [])
abbrev z_L_bar : MethodName := ⟨"TaskShareLaw", "bar", "(LTaskShare;II[J)I"⟩
abbrev Y_L_bar : jx_Y := ("TaskShareLaw", "bar", method_9_code, 5, (some FieldType.int), [(0, 10, 13, 21), (0, 10, 17, 27)])
abbrev z_T_bar : MethodName := ⟨"TaskShare", "bar", "(II)I"⟩
abbrev Y_T_bar : jx_Y := ("TaskShare", "bar", prog_1_method_8_code, 5, (some FieldType.int), [])
abbrev z_L_assign : MethodName := ⟨"TaskShareLaw", "assign", "(LTaskShare;I[J)I"⟩
abbrev Y_L_assign : jx_Y := ("TaskShareLaw", "assign", method_10_code, 4, (some FieldType.int), [(0, 9, 12, 13)])
abbrev z_T_assign : MethodName := ⟨"TaskShare", "assign", "(I)I"⟩
abbrev Y_T_assign : jx_Y := ("TaskShare", "assign", prog_1_method_9_code, 2, (some FieldType.int), [])
abbrev z_T_freeOpenTasks : MethodName := ⟨"TaskShare", "freeOpenTasks", "()V"⟩
abbrev Y_T_freeOpenTasks : jx_Y := ("TaskShare", "freeOpenTasks", prog_1_method_34_code, 2, none, [])
abbrev z_X_plan : MethodName := ⟨"TaskShare$ExactPlanner", "plan", "(Ljava/util/ArrayList;Ljava/util/ArrayList;LTaskShare$Ways;I)V"⟩
abbrev Y_X_plan : jx_Y := ("TaskShare$ExactPlanner", "plan", prog_2_method_2_code, 8, none, [])
abbrev z_X_collectOpen : MethodName := ⟨"TaskShare$ExactPlanner", "collectOpen", "(Ljava/util/ArrayList;)V"⟩
abbrev Y_X_collectOpen : jx_Y := ("TaskShare$ExactPlanner", "collectOpen", prog_2_method_3_code, 3, none, [])
abbrev z_A_clear : MethodName := ⟨"java/util/ArrayList", "clear", "()V"⟩
abbrev Y_A_clear : jx_Y := ("java/util/ArrayList", "clear", prog_23_method_40_code, 4, none, [])
abbrev z_X_tryOrders : MethodName := ⟨"TaskShare$ExactPlanner", "tryOrders", "(LTaskShare$Person;LTaskShare$Ways;III)V"⟩
abbrev Y_X_tryOrders : jx_Y := ("TaskShare$ExactPlanner", "tryOrders", prog_2_method_4_code, 11, none, [])
abbrev z_X_keepIfBetter : MethodName := ⟨"TaskShare$ExactPlanner", "keepIfBetter", "(III)V"⟩
abbrev Y_X_keepIfBetter : jx_Y := ("TaskShare$ExactPlanner", "keepIfBetter", prog_2_method_5_code, 6, none, [])
abbrev z_X_startsEarlier : MethodName := ⟨"TaskShare$ExactPlanner", "startsEarlier", "(II)Z"⟩
abbrev Y_X_startsEarlier : jx_Y := ("TaskShare$ExactPlanner", "startsEarlier", prog_2_method_6_code, 5, (some FieldType.boolean), [])
abbrev z_X_shareOut : MethodName := ⟨"TaskShare$ExactPlanner", "shareOut", "(I)V"⟩
abbrev Y_X_shareOut : jx_Y := ("TaskShare$ExactPlanner", "shareOut", prog_2_method_8_code, 4, none, [])
abbrev z_X_rank : MethodName := ⟨"TaskShare$ExactPlanner", "rank", "(III)J"⟩
abbrev Y_X_rank : jx_Y := ("TaskShare$ExactPlanner", "rank", prog_2_method_7_code, 4, (some FieldType.long), [])
abbrev z_X_chooseFrom : MethodName := ⟨"TaskShare$ExactPlanner", "chooseFrom", "(II)V"⟩
abbrev Y_X_chooseFrom : jx_Y := ("TaskShare$ExactPlanner", "chooseFrom", prog_2_method_9_code, 10, none, [])
abbrev z_X_tell : MethodName := ⟨"TaskShare$ExactPlanner", "tell", "(I)V"⟩
abbrev Y_X_tell : jx_Y := ("TaskShare$ExactPlanner", "tell", prog_2_method_10_code, 6, none, [])
abbrev z_K_planFor : MethodName := ⟨"TaskShare$Task", "planFor", "(II)V"⟩
abbrev Y_K_planFor : jx_Y := ("TaskShare$Task", "planFor", prog_4_method_4_code, 3, none, [])
abbrev z_T_planByRule : MethodName := ⟨"TaskShare", "planByRule", "()V"⟩
abbrev Y_T_planByRule : jx_Y := ("TaskShare", "planByRule", prog_1_method_35_code, 3, none, [])
abbrev z_T_sortOpenByDue : MethodName := ⟨"TaskShare", "sortOpenByDue", "()V"⟩
abbrev Y_T_sortOpenByDue : jx_Y := ("TaskShare", "sortOpenByDue", prog_1_method_36_code, 4, none, [])
abbrev z_A_addAt : MethodName := ⟨"java/util/ArrayList", "add", "(ILjava/lang/Object;)V"⟩
abbrev Y_A_addAt : jx_Y := ("java/util/ArrayList", "add", prog_23_method_26_code, 5, none, [])
abbrev z_A_rangeCheckForAdd : MethodName := ⟨"java/util/ArrayList", "rangeCheckForAdd", "(I)V"⟩
abbrev Y_A_rangeCheckForAdd : jx_Y := ("java/util/ArrayList", "rangeCheckForAdd", prog_23_method_45_code, 2, none, [])
abbrev z_T_addToBestRow : MethodName := ⟨"TaskShare", "addToBestRow", "(LTaskShare$Task;)V"⟩
abbrev Y_T_addToBestRow : jx_Y := ("TaskShare", "addToBestRow", prog_1_method_37_code, 8, none, [])
abbrev z_P_addToRow : MethodName := ⟨"TaskShare$Person", "addToRow", "(LTaskShare$Task;)V"⟩
abbrev Y_P_addToRow : jx_Y := ("TaskShare$Person", "addToRow", prog_3_method_7_code, 2, none, [])
abbrev z_L_give : MethodName := ⟨"TaskShareLaw", "give", "(LTaskShare;I[J)I"⟩
abbrev Y_L_give : jx_Y := ("TaskShareLaw", "give", method_11_code, 4, (some FieldType.int), [(0, 9, 12, 21), (0, 9, 15, 27)])
abbrev z_T_give : MethodName := ⟨"TaskShare", "give", "(I)I"⟩
abbrev Y_T_give : jx_Y := ("TaskShare", "give", prog_1_method_12_code, 5, (some FieldType.int), [])
abbrev z_T_needAtWork : MethodName := ⟨"TaskShare", "needAtWork", "(LTaskShare$Person;)V"⟩
abbrev Y_T_needAtWork : jx_Y := ("TaskShare", "needAtWork", prog_1_method_26_code, 4, none, [])
abbrev z_T_plannedTask : MethodName := ⟨"TaskShare", "plannedTask", "(II)I"⟩
abbrev Y_T_plannedTask : jx_Y := ("TaskShare", "plannedTask", prog_1_method_30_code, 4, (some FieldType.int), [])
abbrev z_T_plannedBefore : MethodName := ⟨"TaskShare", "plannedBefore", "(LTaskShare$Task;)I"⟩
abbrev Y_T_plannedBefore : jx_Y := ("TaskShare", "plannedBefore", prog_1_method_31_code, 6, (some FieldType.int), [])
abbrev z_L_done : MethodName := ⟨"TaskShareLaw", "done", "(LTaskShare;I[J)I"⟩
abbrev Y_L_done : jx_Y := ("TaskShareLaw", "done", method_12_code, 4, (some FieldType.int), [(0, 9, 12, 21), (0, 9, 15, 27)])
abbrev z_T_done : MethodName := ⟨"TaskShare", "done", "(I)I"⟩
abbrev Y_T_done : jx_Y := ("TaskShare", "done", prog_1_method_13_code, 3, (some FieldType.int), [])
abbrev z_L_leaves : MethodName := ⟨"TaskShareLaw", "leaves", "(LTaskShare;I[J)I"⟩
abbrev Y_L_leaves : jx_Y := ("TaskShareLaw", "leaves", method_13_code, 4, (some FieldType.int), [(0, 9, 12, 21), (0, 9, 15, 27)])
abbrev z_T_leaves : MethodName := ⟨"TaskShare", "leaves", "(I)I"⟩
abbrev Y_T_leaves : jx_Y := ("TaskShare", "leaves", prog_1_method_14_code, 6, (some FieldType.int), [])
abbrev z_L_fair : MethodName := ⟨"TaskShareLaw", "fair", "(LTaskShare;I[J)I"⟩
abbrev Y_L_fair : jx_Y := ("TaskShareLaw", "fair", method_14_code, 4, (some FieldType.int), [(0, 9, 12, 21)])
abbrev z_T_fair : MethodName := ⟨"TaskShare", "fair", "(I)I"⟩
abbrev Y_T_fair : jx_Y := ("TaskShare", "fair", prog_1_method_15_code, 4, (some FieldType.int), [])
abbrev z_L_pass : MethodName := ⟨"TaskShareLaw", "pass", "(LTaskShare;I)I"⟩
abbrev Y_L_pass : jx_Y := ("TaskShareLaw", "pass", method_15_code, 3, (some FieldType.int), [(0, 5, 8, 13)])
abbrev z_T_pass : MethodName := ⟨"TaskShare", "pass", "(I)V"⟩
abbrev Y_T_pass : jx_Y := ("TaskShare", "pass", prog_1_method_16_code, 2, none, [])
abbrev z_L_order : MethodName := ⟨"TaskShareLaw", "order", "(LTaskShare;II[J)I"⟩
abbrev Y_L_order : jx_Y := ("TaskShareLaw", "order", method_16_code, 5, (some FieldType.int), [(0, 10, 13, 21), (0, 10, 17, 13)])
abbrev z_T_order : MethodName := ⟨"TaskShare", "order", "(II)I"⟩
abbrev Y_T_order : jx_Y := ("TaskShare", "order", prog_1_method_17_code, 4, (some FieldType.int), [])
abbrev z_L_told : MethodName := ⟨"TaskShareLaw", "told", "(LTaskShare;II[J)I"⟩
abbrev Y_L_told : jx_Y := ("TaskShareLaw", "told", method_17_code, 5, (some FieldType.int), [(0, 10, 13, 21), (0, 10, 17, 13)])
abbrev z_T_told : MethodName := ⟨"TaskShare", "told", "(II)I"⟩
abbrev Y_T_told : jx_Y := ("TaskShare", "told", prog_1_method_18_code, 4, (some FieldType.int), [])
abbrev z_L_known : MethodName := ⟨"TaskShareLaw", "known", "(LTaskShare;II[J)I"⟩
abbrev Y_L_known : jx_Y := ("TaskShareLaw", "known", method_18_code, 5, (some FieldType.int), [(0, 10, 13, 21), (0, 10, 17, 13)])
abbrev z_T_known : MethodName := ⟨"TaskShare", "known", "(II)I"⟩
abbrev Y_T_known : jx_Y := ("TaskShare", "known", prog_1_method_19_code, 4, (some FieldType.int), [])
abbrev z_M_init : MethodName := ⟨"TaskShareModel", "<init>", "()V"⟩
abbrev Y_M_init : jx_Y := ("TaskShareModel", "<init>", prog_7_method_1_code, 1, none, [])
abbrev z_M_thrown : MethodName := ⟨"TaskShareModel", "thrown", "()I"⟩
abbrev Y_M_thrown : jx_Y := ("TaskShareModel", "thrown", prog_7_method_2_code, 1, (some FieldType.int), [])
abbrev z_M_person : MethodName := ⟨"TaskShareModel", "person", "(IIII)I"⟩
abbrev Y_M_person : jx_Y := ("TaskShareModel", "person", prog_7_method_6_code, 6, (some FieldType.int), [])
abbrev z_M_within : MethodName := ⟨"TaskShareModel", "within", "(III)Z"⟩
abbrev Y_M_within : jx_Y := ("TaskShareModel", "within", prog_7_method_3_code, 3, (some FieldType.boolean), [])
abbrev z_M_rest : MethodName := ⟨"TaskShareModel", "rest", "(III)V"⟩
abbrev Y_M_rest : jx_Y := ("TaskShareModel", "rest", prog_7_method_7_code, 4, none, [])
abbrev z_M_isPerson : MethodName := ⟨"TaskShareModel", "isPerson", "(I)Z"⟩
abbrev Y_M_isPerson : jx_Y := ("TaskShareModel", "isPerson", prog_7_method_4_code, 2, (some FieldType.boolean), [])
abbrev z_M_train : MethodName := ⟨"TaskShareModel", "train", "(II)I"⟩
abbrev Y_M_train : jx_Y := ("TaskShareModel", "train", prog_7_method_9_code, 3, (some FieldType.int), [])
abbrev z_M_bits : MethodName := ⟨"TaskShareModel", "bits", "(I)I"⟩
abbrev Y_M_bits : jx_Y := ("TaskShareModel", "bits", prog_7_method_8_code, 3, (some FieldType.int), [])
abbrev z_M_task : MethodName := ⟨"TaskShareModel", "task", "(IIII)I"⟩
abbrev Y_M_task : jx_Y := ("TaskShareModel", "task", prog_7_method_10_code, 6, (some FieldType.int), [])
abbrev z_M_way : MethodName := ⟨"TaskShareModel", "way", "(III)V"⟩
abbrev Y_M_way : jx_Y := ("TaskShareModel", "way", prog_7_method_11_code, 4, none, [])
abbrev z_M_refuse : MethodName := ⟨"TaskShareModel", "refuse", "(II)Z"⟩
abbrev Y_M_refuse : jx_Y := ("TaskShareModel", "refuse", prog_7_method_14_code, 3, (some FieldType.boolean), [])
abbrev z_M_isTask : MethodName := ⟨"TaskShareModel", "isTask", "(I)Z"⟩
abbrev Y_M_isTask : jx_Y := ("TaskShareModel", "isTask", prog_7_method_5_code, 2, (some FieldType.boolean), [])
abbrev z_M_hasRefused : MethodName := ⟨"TaskShareModel", "hasRefused", "(II)Z"⟩
abbrev Y_M_hasRefused : jx_Y := ("TaskShareModel", "hasRefused", prog_7_method_13_code, 3, (some FieldType.boolean), [])
abbrev z_M_free : MethodName := ⟨"TaskShareModel", "free", "(I)V"⟩
abbrev Y_M_free : jx_Y := ("TaskShareModel", "free", prog_7_method_12_code, 2, none, [])
abbrev z_M_bar : MethodName := ⟨"TaskShareModel", "bar", "(II)I"⟩
abbrev Y_M_bar : jx_Y := ("TaskShareModel", "bar", prog_7_method_21_code, 3, (some FieldType.int), [])
abbrev z_M_aloneAt : MethodName := ⟨"TaskShareModel", "aloneAt", "(II)I"⟩
abbrev Y_M_aloneAt : jx_Y := ("TaskShareModel", "aloneAt", prog_7_method_20_code, 3, (some FieldType.int), [])
abbrev z_M_readyAt : MethodName := ⟨"TaskShareModel", "readyAt", "(I)I"⟩
abbrev Y_M_readyAt : jx_Y := ("TaskShareModel", "readyAt", prog_7_method_16_code, 3, (some FieldType.int), [])
abbrev z_M_greater : MethodName := ⟨"TaskShareModel", "greater", "(II)I"⟩
abbrev Y_M_greater : jx_Y := ("TaskShareModel", "greater", prog_7_method_15_code, 2, (some FieldType.int), [])
abbrev z_M_startOf : MethodName := ⟨"TaskShareModel", "startOf", "(IIII)I"⟩
abbrev Y_M_startOf : jx_Y := ("TaskShareModel", "startOf", prog_7_method_17_code, 6, (some FieldType.int), [])
abbrev z_M_assign : MethodName := ⟨"TaskShareModel", "assign", "(I)I"⟩
abbrev Y_M_assign : jx_Y := ("TaskShareModel", "assign", prog_7_method_34_code, 3, (some FieldType.int), [])
abbrev z_M_count : MethodName := ⟨"TaskShareModel", "count", "(I)I"⟩
abbrev Y_M_count : jx_Y := ("TaskShareModel", "count", prog_7_method_48_code, 4, (some FieldType.int), [])
abbrev z_M_inState : MethodName := ⟨"TaskShareModel", "inState", "(I)I"⟩
abbrev Y_M_inState : jx_Y := ("TaskShareModel", "inState", prog_7_method_47_code, 4, (some FieldType.int), [])
abbrev z_M_lateBy : MethodName := ⟨"TaskShareModel", "lateBy", "(II)I"⟩
abbrev Y_M_lateBy : jx_Y := ("TaskShareModel", "lateBy", prog_7_method_18_code, 3, (some FieldType.int), [])
abbrev z_M_planByRule : MethodName := ⟨"TaskShareModel", "planByRule", "()V"⟩
abbrev Y_M_planByRule : jx_Y := ("TaskShareModel", "planByRule", prog_7_method_33_code, 5, none, [])
abbrev z_M_planOne : MethodName := ⟨"TaskShareModel", "planOne", "(I)V"⟩
abbrev Y_M_planOne : jx_Y := ("TaskShareModel", "planOne", prog_7_method_32_code, 6, none, [])
abbrev z_M_may : MethodName := ⟨"TaskShareModel", "may", "(II)Z"⟩
abbrev Y_M_may : jx_Y := ("TaskShareModel", "may", prog_7_method_19_code, 3, (some FieldType.boolean), [])
abbrev z_M_behind : MethodName := ⟨"TaskShareModel", "behind", "(II)I"⟩
abbrev Y_M_behind : jx_Y := ("TaskShareModel", "behind", prog_7_method_31_code, 5, (some FieldType.int), [])
abbrev z_M_load : MethodName := ⟨"TaskShareModel", "load", "(I)I"⟩
abbrev Y_M_load : jx_Y := ("TaskShareModel", "load", prog_7_method_30_code, 4, (some FieldType.int), [])
abbrev z_M_planExactly : MethodName := ⟨"TaskShareModel", "planExactly", "()V"⟩
abbrev Y_M_planExactly : jx_Y := ("TaskShareModel", "planExactly", prog_7_method_29_code, 7, none, [])
abbrev z_M_findOrder : MethodName := ⟨"TaskShareModel", "findOrder", "(II)V"⟩
abbrev Y_M_findOrder : jx_Y := ("TaskShareModel", "findOrder", prog_7_method_26_code, 8, none, [])
abbrev z_M_tryOrder : MethodName := ⟨"TaskShareModel", "tryOrder", "(II)I"⟩
abbrev Y_M_tryOrder : jx_Y := ("TaskShareModel", "tryOrder", prog_7_method_22_code, 9, (some FieldType.int), [])
abbrev z_M_startsAreLess : MethodName := ⟨"TaskShareModel", "startsAreLess", "(II)Z"⟩
abbrev Y_M_startsAreLess : jx_Y := ("TaskShareModel", "startsAreLess", prog_7_method_25_code, 4, (some FieldType.boolean), [])
abbrev z_M_nextOrder : MethodName := ⟨"TaskShareModel", "nextOrder", "(I)Z"⟩
abbrev Y_M_nextOrder : jx_Y := ("TaskShareModel", "nextOrder", prog_7_method_23_code, 6, (some FieldType.boolean), [])
abbrev z_M_swap : MethodName := ⟨"TaskShareModel", "swap", "(II)V"⟩
abbrev Y_M_swap : jx_Y := ("TaskShareModel", "swap", prog_7_method_24_code, 4, none, [])
abbrev z_M_costOf : MethodName := ⟨"TaskShareModel", "costOf", "()I"⟩
abbrev Y_M_costOf : jx_Y := ("TaskShareModel", "costOf", prog_7_method_28_code, 4, (some FieldType.int), [])
abbrev z_M_setOf : MethodName := ⟨"TaskShareModel", "setOf", "(I)I"⟩
abbrev Y_M_setOf : jx_Y := ("TaskShareModel", "setOf", prog_7_method_27_code, 4, (some FieldType.int), [])
abbrev z_M_exact : MethodName := ⟨"TaskShareModel", "exact", "()Z"⟩
abbrev Y_M_exact : jx_Y := ("TaskShareModel", "exact", prog_7_method_35_code, 1, (some FieldType.boolean), [])
abbrev z_M_bound : MethodName := ⟨"TaskShareModel", "bound", "()I"⟩
abbrev Y_M_bound : jx_Y := ("TaskShareModel", "bound", prog_7_method_36_code, 6, (some FieldType.int), [])
abbrev z_M_give : MethodName := ⟨"TaskShareModel", "give", "(I)I"⟩
abbrev Y_M_give : jx_Y := ("TaskShareModel", "give", prog_7_method_38_code, 4, (some FieldType.int), [])
abbrev z_M_planned : MethodName := ⟨"TaskShareModel", "planned", "(II)I"⟩
abbrev Y_M_planned : jx_Y := ("TaskShareModel", "planned", prog_7_method_37_code, 7, (some FieldType.int), [])
abbrev z_M_done : MethodName := ⟨"TaskShareModel", "done", "(I)I"⟩
abbrev Y_M_done : jx_Y := ("TaskShareModel", "done", prog_7_method_40_code, 2, (some FieldType.int), [])
abbrev z_M_doneBy : MethodName := ⟨"TaskShareModel", "doneBy", "(I)I"⟩
abbrev Y_M_doneBy : jx_Y := ("TaskShareModel", "doneBy", prog_7_method_39_code, 4, (some FieldType.int), [])
abbrev z_M_leaves : MethodName := ⟨"TaskShareModel", "leaves", "(I)I"⟩
abbrev Y_M_leaves : jx_Y := ("TaskShareModel", "leaves", prog_7_method_41_code, 4, (some FieldType.int), [])
abbrev z_M_fair : MethodName := ⟨"TaskShareModel", "fair", "(I)I"⟩
abbrev Y_M_fair : jx_Y := ("TaskShareModel", "fair", prog_7_method_42_code, 3, (some FieldType.int), [])
abbrev z_M_pass : MethodName := ⟨"TaskShareModel", "pass", "(I)V"⟩
abbrev Y_M_pass : jx_Y := ("TaskShareModel", "pass", prog_7_method_43_code, 2, none, [])
abbrev z_M_order : MethodName := ⟨"TaskShareModel", "order", "(II)I"⟩
abbrev Y_M_order : jx_Y := ("TaskShareModel", "order", prog_7_method_44_code, 3, (some FieldType.int), [])
abbrev z_M_told : MethodName := ⟨"TaskShareModel", "told", "(II)I"⟩
abbrev Y_M_told : jx_Y := ("TaskShareModel", "told", prog_7_method_45_code, 3, (some FieldType.int), [])
abbrev z_M_known : MethodName := ⟨"TaskShareModel", "known", "(II)I"⟩
abbrev Y_M_known : jx_Y := ("TaskShareModel", "known", prog_7_method_46_code, 4, (some FieldType.int), [])
abbrev z_L_law : MethodName := ⟨"TaskShareLaw", "law", "([I)Z"⟩
abbrev Y_L_law : jx_Y := ("TaskShareLaw", "law", code, 7, (some FieldType.boolean), [])
end
section
/-! 10.logic: a weakest-precondition reading of the machine. A world is a bundle of functions of addresses; every method is walked over the whole world; a method's contract is the walk from its entry. -/
/-- where a walk stands: the method, the tables since the law's start, the room for d frames -/
def jx_C (E : jx_E) (Y : jx_Y) (d : Nat) (p : Program) (e : Env) (R : Room) (s : State) (m : MethodId) (meth : Method) (c : Code) : Prop :=
  p.tables.exec = Jvm.exec ∧ c.code = Y.2.2.1 ∧ c.maxLocals = Y.2.2.2.1 ∧ meth.sig.returnType = Y.2.2.2.2.1 ∧ s.vm.findClass Y.1 = some m.cls ∧ meth.locks = false ∧ meth.name = Y.2.1 ∧
  c.exceptionTable.toList.map (fun h => (h.startPc, h.endPc, h.handlerPc, h.catchType)) = Y.2.2.2.2.2 ∧ E.1.WarmedH s.vm ∧ jx_old E s.heap ∧ d ≤ R.frames ∧ 80 * d ≤ R.locals ∧ jx_OK E ∧ e.platform.stackTraces = false
section JXC
variable {E : jx_E} {Y : jx_Y} {d : Nat} {p : Program} {e : Env} {R : Room} {s : State} {m : MethodId} {meth : Method} {c : Code}
theorem jx_C.ex (C : jx_C E Y d p e R s m meth c) : p.tables.exec = Jvm.exec := C.1
theorem jx_C.code (C : jx_C E Y d p e R s m meth c) : c.code = Y.2.2.1 := C.2.1
theorem jx_C.nL (C : jx_C E Y d p e R s m meth c) : c.maxLocals = Y.2.2.2.1 := C.2.2.1
theorem jx_C.ret (C : jx_C E Y d p e R s m meth c) : meth.sig.returnType = Y.2.2.2.2.1 := C.2.2.2.1
theorem jx_C.own (C : jx_C E Y d p e R s m meth c) : s.vm.findClass Y.1 = some m.cls := C.2.2.2.2.1
theorem jx_C.locks (C : jx_C E Y d p e R s m meth c) : meth.locks = false := C.2.2.2.2.2.1
theorem jx_C.name (C : jx_C E Y d p e R s m meth c) : meth.name = Y.2.1 := C.2.2.2.2.2.2.1
theorem jx_C.tab (C : jx_C E Y d p e R s m meth c) : c.exceptionTable.toList.map (fun h => (h.startPc, h.endPc, h.handlerPc, h.catchType)) = Y.2.2.2.2.2 := C.2.2.2.2.2.2.2.1
theorem jx_C.warm (C : jx_C E Y d p e R s m meth c) : E.1.WarmedH s.vm := C.2.2.2.2.2.2.2.2.1
theorem jx_C.old (C : jx_C E Y d p e R s m meth c) : jx_old E s.heap := C.2.2.2.2.2.2.2.2.2.1
theorem jx_C.fr (C : jx_C E Y d p e R s m meth c) : d ≤ R.frames := C.2.2.2.2.2.2.2.2.2.2.1
theorem jx_C.lo (C : jx_C E Y d p e R s m meth c) : 80 * d ≤ R.locals := C.2.2.2.2.2.2.2.2.2.2.2.1
theorem jx_C.ok (C : jx_C E Y d p e R s m meth c) : jx_OK E := C.2.2.2.2.2.2.2.2.2.2.2.2.1
theorem jx_C.st (C : jx_C E Y d p e R s m meth c) : e.platform.stackTraces = false := C.2.2.2.2.2.2.2.2.2.2.2.2.2
end JXC
/-- the locals, slot by slot; none: nothing is known -/
def jx_L (ls : Array Slot) (nL : Nat) (L : List (Option Value)) : Prop := ls.size = nL ∧ lv_wf ls ∧ L.length = nL ∧ ∀ (i : Nat) (v : Value), L[i]? = some (some v) → ls[i]? = some (.val v)
def jx_out (E : jx_E) (o : Outcome) (r : jx_R) (H : Heap) : Prop := match r with
  | .inr v => o = .returned v
  | .inl (x, a) => o = .threw a ∧ E.1.heap.size ≤ a ∧ ∃ cell, H[a]? = some cell ∧ cell.vm.isStatics = false ∧ E.1.vm.findClass (jx_xn x) = some cell.cls
/-- a method's end -/
def jx_P (E : jx_E) (R : Room) (s : State) (below : List Frame) (Q : jx_R → jx_W → Prop) (t : State) : Prop := ∃ (o : Outcome) (r : jx_R) (w : jx_W) (L : List Loc) (k n : Nat), t.status = .running ∧ Ended t below o ∧ Q r w ∧ jx_out E o r t.heap ∧ jx_H E w t.heap ∧ s.WarmedH t.vm ∧ s.sameButNew ({ t with vm := s.vm } : State) L k n ∧ (∀ q ∈ L, E.1.heap.size ≤ q.base) ∧ k + jx_c w ≤ R.cells ∧ n + jx_s w ≤ R.slots
/-- from pc, with these locals, this stack and this world, the method comes to an end with Q -/
def jx_G (E : jx_E) (l : Launch) (Y : jx_Y) (d : Nat) (Q : jx_R → jx_W → Prop) (pc : Nat) (L : List (Option Value)) (st : List Value) (w : jx_W) : Prop :=
  ∀ (p : Program) (e : Env) (R : Room) (s : State) (m : MethodId) (args : Array Value) (below : List Frame) (meth : Method) (c : Code) (H : Heap) (locs : List Loc) (cells slots : Nat) (ls : Array Slot),
    jx_C E Y d p e R s m meth c → jx_H E w H → jx_L ls Y.2.2.2.1 L → (∀ q ∈ locs, E.1.heap.size ≤ q.base) → cells + jx_c w ≤ R.cells → slots + jx_s w ≤ R.slots →
    W p l e R s m args below meth c H locs cells slots (jx_P E R s below Q) (F0 m pc ls st)
/-- a word of the tables at the law's start is one of every later state -/
theorem jx_mv {E : jx_E} {s : State} {q : Jvm.Cond} {args : Array Value} (hW : E.1.WarmedH s.vm) (hc : (q.onTables && q.keepsH) = true) (h : q.before #[] E.1 = true) : q.before args s = true := by
  simp only [Bool.and_eq_true] at hc
  have h1 := Cond.onTables_warmH (T := s) (args' := args) hW hc.1 hc.2 h
  rwa [State.setVm_self] at h1
theorem jx_lay_ok (C : String) (T : u_T) (k : Nat) : ((u_lay C T k).onTables && (u_lay C T k).keepsH) = true := by
  unfold u_lay
  split <;> rfl
theorem jx_lays {E : jx_E} {s : State} {args : Array Value} {C : String} {T : u_T} {k : Nat} (hW : E.1.WarmedH s.vm) (h : (u_lay C T k).before #[] E.1 = true) :
    (Jvm.Cond.lays C (T k).1 (T k).2.1 (T k).2.2.1).before args s = true ∨ (Jvm.Cond.laysFinal C (T k).1 (T k).2.1 (T k).2.2.1).before args s = true := by
  have h1 := jx_mv (args := args) hW (jx_lay_ok C T k) h
  unfold u_lay at h1
  split at h1
  · exact Or.inr h1
  · exact Or.inl h1
/-! ## the locals -/
def jx_as (L : List (Option Value)) : List (Nat × Value) := (List.range L.length).filterMap (fun i => match L[i]? with | some (some v) => some (i, v) | _ => none)
theorem jx_mem_as {L : List (Option Value)} {i : Nat} {v : Value} : (i, v) ∈ jx_as L ↔ L[i]? = some (some v) := by
  unfold jx_as
  rw [List.mem_filterMap]
  constructor
  · rintro ⟨j, -, h⟩
    split at h
    · rename_i v' h2
      cases h
      exact h2
    · cases h
  · intro h
    refine ⟨i, List.mem_range.mpr (List.getElem?_eq_some_iff.mp h).1, ?_⟩
    rw [h]
theorem jx_L.has {ls : Array Slot} {nL : Nat} {L : List (Option Value)} (h : jx_L ls nL L) : lv_has ls nL (jx_as L) := ⟨h.1, h.2.1, fun q hq => h.2.2.2 q.1 q.2 (jx_mem_as.mp hq)⟩
/-- no value of two slots ends at i -/
def jx_free (L : List (Option Value)) (i : Nat) : Bool := match i with
  | 0 => true
  | j + 1 => match L[j]? with
    | some (some v) => v.category == 1
    | _ => true
theorem jx_st1 {ls' : Array Slot} {nL i : Nat} {L : List (Option Value)} {v : Value} (hlen : L.length = nL) (hi : i < nL) (hf : jx_free L i = true) (h : lv_has ls' nL ((i, v) :: (jx_as L).filter (fun q => !(q.1 == i) && !(q.1 + 1 == i && q.2.category == 2)))) : jx_L ls' nL (L.set i (some v)) := by
  refine ⟨h.1, h.2.1, by simp [hlen], fun j u hj => ?_⟩
  by_cases e : j = i
  · subst e
    rw [List.getElem?_set_self (by omega)] at hj
    cases hj
    exact h.2.2 _ List.mem_cons_self
  · rw [List.getElem?_set_ne (fun q => e q.symm)] at hj
    refine h.2.2 (j, u) (List.mem_cons_of_mem _ (List.mem_filter.mpr ⟨jx_mem_as.mpr hj, ?_⟩))
    by_cases e2 : j + 1 = i
    · subst e2
      unfold jx_free at hf
      simp only [hj] at hf
      have h1 : u.category = 1 := by simpa using hf
      simp [h1]
    · simp [e, e2]
theorem jx_st2 {ls' : Array Slot} {nL i : Nat} {L : List (Option Value)} {v : Value} (hlen : L.length = nL) (hi : i + 1 < nL) (hf : jx_free L i = true) (h : lv_has ls' nL ((i, v) :: (jx_as L).filter (fun q => !(q.1 == i) && (!(q.1 == i + 1) && !(q.1 + 1 == i && q.2.category == 2))))) : jx_L ls' nL ((L.set i (some v)).set (i + 1) none) := by
  refine ⟨h.1, h.2.1, by simp [hlen], fun j u hj => ?_⟩
  by_cases e0 : j = i + 1
  · subst e0
    rw [List.getElem?_set_self (by simp; omega)] at hj
    cases hj
  rw [List.getElem?_set_ne (fun q => e0 q.symm)] at hj
  by_cases e : j = i
  · subst e
    rw [List.getElem?_set_self (by omega)] at hj
    cases hj
    exact h.2.2 _ List.mem_cons_self
  · rw [List.getElem?_set_ne (fun q => e q.symm)] at hj
    refine h.2.2 (j, u) (List.mem_cons_of_mem _ (List.mem_filter.mpr ⟨jx_mem_as.mpr hj, ?_⟩))
    by_cases e2 : j + 1 = i
    · subst e2
      unfold jx_free at hf
      simp only [hj] at hf
      have h1 : u.category = 1 := by simpa using hf
      simp [h1]
      omega
    · simp [e, e2, e0]
/-- the locals at a method's entry -/
def jx_fl : List Value → List (Option Value)
  | [] => []
  | v :: t => if v.category = 2 then some v :: none :: jx_fl t else some v :: jx_fl t
def jx_ent (As : List Value) (n : Nat) : List (Option Value) := jx_fl As ++ List.replicate (n - (jx_fl As).length) none
theorem jx_fl_len : ∀ As : List Value, (jx_fl As).length = (lg_sl As).length := by
  intro As
  induction As with
  | nil => rfl
  | cons v t ih =>
    unfold lg_sl at ih ⊢
    by_cases h : v.category = 2 <;> simp [jx_fl, h, ih]
theorem jx_fl_at : ∀ (As : List Value) (i : Nat) (v : Value), (jx_fl As)[i]? = some (some v) → (lg_sl As)[i]? = some (.val v) := by
  intro As
  induction As with
  | nil => intro i v h; simp [jx_fl] at h
  | cons u t ih =>
    intro i v h
    unfold lg_sl at ih ⊢
    by_cases hc : u.category = 2
    · simp only [jx_fl, hc, if_true] at h
      simp only [List.flatMap_cons, hc, if_true]
      match i, h with
      | 0, h => simp at h; subst h; rfl
      | 1, h => simp at h
      | i + 2, h => simp at h; simpa using ih i v h
    · simp only [jx_fl, hc, if_false] at h
      simp only [List.flatMap_cons, hc, if_false]
      match i, h with
      | 0, h => simp at h; subst h; rfl
      | i + 1, h => simp at h; simpa using ih i v h
theorem jx_entry (As : List Value) {n : Nat} (h : (jx_fl As).length ≤ n) : jx_L ((lg_sl As ++ List.replicate (n - (lg_sl As).length) Slot.unset).toArray) n (jx_ent As n) := by
  have h0 : (lg_sl As).length ≤ n := by rw [← jx_fl_len]; exact h
  have h1 := lv_entry As h0
  refine ⟨h1.1, h1.2.1, by simp [jx_ent]; omega, fun i v hv => ?_⟩
  unfold jx_ent at hv
  by_cases hi : i < (jx_fl As).length
  · rw [List.getElem?_append_left hi] at hv
    have h2 := jx_fl_at As i v hv
    rw [List.getElem?_toArray, List.getElem?_append_left (by rw [← jx_fl_len]; exact hi)]
    exact h2
  · rw [List.getElem?_append_right (by omega)] at hv
    rw [List.getElem?_replicate] at hv
    split at hv <;> simp at hv
theorem jx_mono {p : Program} {l : Launch} {e : Env} {R : Room} {s : State} {m : MethodId} {args : Array Value} {below : List Frame} {meth : Method} {c : Code} {H : Heap} {locs : List Loc} {cells slots : Nat} {Q Q' : State → Prop} {g : JFrame} (h : ∀ t, Q t → Q' t) (k : W p l e R s m args below meth c H locs cells slots Q g) : W p l e R s m args below meth c H locs cells slots Q' g := by
  intro T hT X
  obtain ⟨t, a, b⟩ := k T hT X
  exact ⟨t, a, h t b⟩
/-- a weaker end -/
theorem jx_weak {E : jx_E} {l : Launch} {Y : jx_Y} {d : Nat} {Q Q' : jx_R → jx_W → Prop} {pc : Nat} {L : List (Option Value)} {st : List Value} {w : jx_W} (k : jx_G E l Y d Q pc L st w) (h : ∀ r w', Q r w' → Q' r w') : jx_G E l Y d Q' pc L st w := by
  intro p e R s m args below meth c H locs cells slots ls C hH hL hq hc hs
  refine jx_mono ?_ (k p e R s m args below meth c H locs cells slots ls C hH hL hq hc hs)
  rintro t ⟨o, r, w', L', k', n', h1, h2, h3, h4⟩
  exact ⟨o, r, w', L', k', n', h1, h2, h r w' h3, h4⟩
/-- fewer locals are known -/
theorem jx_loc {E : jx_E} {l : Launch} {Y : jx_Y} {d : Nat} {Q : jx_R → jx_W → Prop} {pc : Nat} {L : List (Option Value)} (L' : List (Option Value)) {st : List Value} {w : jx_W} (k : jx_G E l Y d Q pc L' st w) (h0 : L'.length = L.length) (h : ∀ (i : Nat) (v : Value), L'[i]? = some (some v) → L[i]? = some (some v)) : jx_G E l Y d Q pc L st w := by
  intro p e R s m args below meth c H locs cells slots ls C hH hL hq hc hs
  exact k p e R s m args below meth c H locs cells slots ls C hH ⟨hL.1, hL.2.1, h0.trans hL.2.2.1, fun i v hv => hL.2.2.2 i v (h i v hv)⟩ hq hc hs
section JXR
variable {E : jx_E} {l : Launch} {Y : jx_Y} {d : Nat} {Q : jx_R → jx_W → Prop} {pc : Nat} {L : List (Option Value)} {st : List Value} {w : jx_W}
theorem jx_deep {d2 : Nat} (k : jx_G E l Y d Q pc L st w) (h : d ≤ d2) : jx_G E l Y d2 Q pc L st w := by
  intro p e R s m args below meth c H locs cells slots ls C hH hL hq hc hs
  exact k p e R s m args below meth c H locs cells slots ls ⟨C.ex, C.code, C.nL, C.ret, C.own, C.locks, C.name, C.tab, C.warm, C.old, Nat.le_trans h C.fr, by have := C.lo; omega, C.ok, C.st⟩ hH hL hq hc hs
theorem jx_iconst {n : Int} {v : Int32} (hd : decode Y.2.2.1 pc = .ok (.iconst n, 1)) (hv : Int32.ofInt n = v) (k : jx_G E l Y d Q (pc + 1) L (.int v :: st) w) : jx_G E l Y d Q pc L (st) w := by
  intro p e R s m args below meth c H locs cells slots ls C hH hL hq hc hs
  exact lv_iconst C.ex C.code hd hv (k p e R s m args below meth c H locs cells slots ls C hH hL hq hc hs)
theorem jx_bipush {n : Int} {v : Int32} (hd : decode Y.2.2.1 pc = .ok (.bipush n, 2)) (hv : (Int8.ofInt n).toInt32 = v) (k : jx_G E l Y d Q (pc + 2) L (.int v :: st) w) : jx_G E l Y d Q pc L (st) w := by
  intro p e R s m args below meth c H locs cells slots ls C hH hL hq hc hs
  exact lv_bipush C.ex C.code hd hv (k p e R s m args below meth c H locs cells slots ls C hH hL hq hc hs)
theorem jx_sipush {n : Int} {v : Int32} (hd : decode Y.2.2.1 pc = .ok (.sipush n, 3)) (hv : (Int16.ofInt n).toInt32 = v) (k : jx_G E l Y d Q (pc + 3) L (.int v :: st) w) : jx_G E l Y d Q pc L (st) w := by
  intro p e R s m args below meth c H locs cells slots ls C hH hL hq hc hs
  exact lv_sipush C.ex C.code hd hv (k p e R s m args below meth c H locs cells slots ls C hH hL hq hc hs)
theorem jx_lconst {n : Fin 2} {v : Int64} (hd : decode Y.2.2.1 pc = .ok (.lconst n, 1)) (hv : Int64.ofNat (n : Nat) = v) (k : jx_G E l Y d Q (pc + 1) L (.long v :: st) w) : jx_G E l Y d Q pc L (st) w := by
  intro p e R s m args below meth c H locs cells slots ls C hH hL hq hc hs
  exact lv_lconst C.ex C.code hd hv (k p e R s m args below meth c H locs cells slots ls C hH hL hq hc hs)
theorem jx_null (hd : decode Y.2.2.1 pc = .ok (.aconst_null, 1)) (k : jx_G E l Y d Q (pc + 1) L (.null :: st) w) : jx_G E l Y d Q pc L (st) w := by
  intro p e R s m args below meth c H locs cells slots ls C hH hL hq hc hs
  exact lv_null C.ex C.code hd (k p e R s m args below meth c H locs cells slots ls C hH hL hq hc hs)
theorem jx_iload_n {k : Fin 4} {i : Nat} {x : Int32} (hd : decode Y.2.2.1 pc = .ok (.iload_n k, 1)) (hi : (k : Nat) = i) (hl : L[i]? = some (some (.int x))) (k : jx_G E l Y d Q (pc + 1) L (.int x :: st) w) : jx_G E l Y d Q pc L (st) w := by
  intro p e R s m args below meth c H locs cells slots ls C hH hL hq hc hs
  exact lv_iload_n C.ex C.code hd hi (hL.2.2.2 _ _ hl) (k p e R s m args below meth c H locs cells slots ls C hH hL hq hc hs)
theorem jx_iload {i : Nat} {x : Int32} (hd : decode Y.2.2.1 pc = .ok (.iload i, 2)) (hl : L[i]? = some (some (.int x))) (k : jx_G E l Y d Q (pc + 2) L (.int x :: st) w) : jx_G E l Y d Q pc L (st) w := by
  intro p e R s m args below meth c H locs cells slots ls C hH hL hq hc hs
  exact lv_iload C.ex C.code hd (hL.2.2.2 _ _ hl) (k p e R s m args below meth c H locs cells slots ls C hH hL hq hc hs)
theorem jx_lload_n {k : Fin 4} {i : Nat} {x : Int64} (hd : decode Y.2.2.1 pc = .ok (.lload_n k, 1)) (hi : (k : Nat) = i) (hl : L[i]? = some (some (.long x))) (k : jx_G E l Y d Q (pc + 1) L (.long x :: st) w) : jx_G E l Y d Q pc L (st) w := by
  intro p e R s m args below meth c H locs cells slots ls C hH hL hq hc hs
  exact lv_lload_n C.ex C.code hd hi (hL.2.2.2 _ _ hl) (k p e R s m args below meth c H locs cells slots ls C hH hL hq hc hs)
theorem jx_lload {i : Nat} {x : Int64} (hd : decode Y.2.2.1 pc = .ok (.lload i, 2)) (hl : L[i]? = some (some (.long x))) (k : jx_G E l Y d Q (pc + 2) L (.long x :: st) w) : jx_G E l Y d Q pc L (st) w := by
  intro p e R s m args below meth c H locs cells slots ls C hH hL hq hc hs
  exact lv_lload C.ex C.code hd (hL.2.2.2 _ _ hl) (k p e R s m args below meth c H locs cells slots ls C hH hL hq hc hs)
theorem jx_aload_n {k : Fin 4} {i : Nat} {x : Nat} (hd : decode Y.2.2.1 pc = .ok (.aload_n k, 1)) (hi : (k : Nat) = i) (hl : L[i]? = some (some (.ref x))) (k : jx_G E l Y d Q (pc + 1) L (.ref x :: st) w) : jx_G E l Y d Q pc L (st) w := by
  intro p e R s m args below meth c H locs cells slots ls C hH hL hq hc hs
  exact lv_aload_n C.ex C.code hd hi (hL.2.2.2 _ _ hl) (k p e R s m args below meth c H locs cells slots ls C hH hL hq hc hs)
theorem jx_aload {i : Nat} {x : Nat} (hd : decode Y.2.2.1 pc = .ok (.aload i, 2)) (hl : L[i]? = some (some (.ref x))) (k : jx_G E l Y d Q (pc + 2) L (.ref x :: st) w) : jx_G E l Y d Q pc L (st) w := by
  intro p e R s m args below meth c H locs cells slots ls C hH hL hq hc hs
  exact lv_aload C.ex C.code hd (hL.2.2.2 _ _ hl) (k p e R s m args below meth c H locs cells slots ls C hH hL hq hc hs)
theorem jx_aload_nN {k : Fin 4} {i : Nat} (hd : decode Y.2.2.1 pc = .ok (.aload_n k, 1)) (hi : (k : Nat) = i) (hl : L[i]? = some (some .null)) (k : jx_G E l Y d Q (pc + 1) L (.null :: st) w) : jx_G E l Y d Q pc L (st) w := by
  intro p e R s m args below meth c H locs cells slots ls C hH hL hq hc hs
  exact lv_aload_nN C.ex C.code hd hi (hL.2.2.2 _ _ hl) (k p e R s m args below meth c H locs cells slots ls C hH hL hq hc hs)
theorem jx_aloadN {i : Nat} (hd : decode Y.2.2.1 pc = .ok (.aload i, 2)) (hl : L[i]? = some (some .null)) (k : jx_G E l Y d Q (pc + 2) L (.null :: st) w) : jx_G E l Y d Q pc L (st) w := by
  intro p e R s m args below meth c H locs cells slots ls C hH hL hq hc hs
  exact lv_aloadN C.ex C.code hd (hL.2.2.2 _ _ hl) (k p e R s m args below meth c H locs cells slots ls C hH hL hq hc hs)
theorem jx_iadd {x y : Int32} (hd : decode Y.2.2.1 pc = .ok (.iadd, 1)) (k : jx_G E l Y d Q (pc + 1) L (.int (x + y) :: st) w) : jx_G E l Y d Q pc L (.int y :: .int x :: st) w := by
  intro p e R s m args below meth c H locs cells slots ls C hH hL hq hc hs
  exact lv_iadd C.ex C.code hd (k p e R s m args below meth c H locs cells slots ls C hH hL hq hc hs)
theorem jx_isub {x y : Int32} (hd : decode Y.2.2.1 pc = .ok (.isub, 1)) (k : jx_G E l Y d Q (pc + 1) L (.int (x - y) :: st) w) : jx_G E l Y d Q pc L (.int y :: .int x :: st) w := by
  intro p e R s m args below meth c H locs cells slots ls C hH hL hq hc hs
  exact lv_isub C.ex C.code hd (k p e R s m args below meth c H locs cells slots ls C hH hL hq hc hs)
theorem jx_imul {x y : Int32} (hd : decode Y.2.2.1 pc = .ok (.imul, 1)) (k : jx_G E l Y d Q (pc + 1) L (.int (x * y) :: st) w) : jx_G E l Y d Q pc L (.int y :: .int x :: st) w := by
  intro p e R s m args below meth c H locs cells slots ls C hH hL hq hc hs
  exact lv_imul C.ex C.code hd (k p e R s m args below meth c H locs cells slots ls C hH hL hq hc hs)
theorem jx_iand {x y : Int32} (hd : decode Y.2.2.1 pc = .ok (.iand, 1)) (k : jx_G E l Y d Q (pc + 1) L (.int (x &&& y) :: st) w) : jx_G E l Y d Q pc L (.int y :: .int x :: st) w := by
  intro p e R s m args below meth c H locs cells slots ls C hH hL hq hc hs
  exact lv_iand C.ex C.code hd (k p e R s m args below meth c H locs cells slots ls C hH hL hq hc hs)
theorem jx_ior {x y : Int32} (hd : decode Y.2.2.1 pc = .ok (.ior, 1)) (k : jx_G E l Y d Q (pc + 1) L (.int (x ||| y) :: st) w) : jx_G E l Y d Q pc L (.int y :: .int x :: st) w := by
  intro p e R s m args below meth c H locs cells slots ls C hH hL hq hc hs
  exact lv_ior C.ex C.code hd (k p e R s m args below meth c H locs cells slots ls C hH hL hq hc hs)
theorem jx_ixor {x y : Int32} (hd : decode Y.2.2.1 pc = .ok (.ixor, 1)) (k : jx_G E l Y d Q (pc + 1) L (.int (x ^^^ y) :: st) w) : jx_G E l Y d Q pc L (.int y :: .int x :: st) w := by
  intro p e R s m args below meth c H locs cells slots ls C hH hL hq hc hs
  exact lv_ixor C.ex C.code hd (k p e R s m args below meth c H locs cells slots ls C hH hL hq hc hs)
theorem jx_ladd {x y : Int64} (hd : decode Y.2.2.1 pc = .ok (.ladd, 1)) (k : jx_G E l Y d Q (pc + 1) L (.long (x + y) :: st) w) : jx_G E l Y d Q pc L (.long y :: .long x :: st) w := by
  intro p e R s m args below meth c H locs cells slots ls C hH hL hq hc hs
  exact lv_ladd C.ex C.code hd (k p e R s m args below meth c H locs cells slots ls C hH hL hq hc hs)
theorem jx_lsub {x y : Int64} (hd : decode Y.2.2.1 pc = .ok (.lsub, 1)) (k : jx_G E l Y d Q (pc + 1) L (.long (x - y) :: st) w) : jx_G E l Y d Q pc L (.long y :: .long x :: st) w := by
  intro p e R s m args below meth c H locs cells slots ls C hH hL hq hc hs
  exact lv_lsub C.ex C.code hd (k p e R s m args below meth c H locs cells slots ls C hH hL hq hc hs)
theorem jx_lmul {x y : Int64} (hd : decode Y.2.2.1 pc = .ok (.lmul, 1)) (k : jx_G E l Y d Q (pc + 1) L (.long (x * y) :: st) w) : jx_G E l Y d Q pc L (.long y :: .long x :: st) w := by
  intro p e R s m args below meth c H locs cells slots ls C hH hL hq hc hs
  exact lv_lmul C.ex C.code hd (k p e R s m args below meth c H locs cells slots ls C hH hL hq hc hs)
theorem jx_ishl {x y : Int32} (hd : decode Y.2.2.1 pc = .ok (.ishl, 1)) (k : jx_G E l Y d Q (pc + 1) L (.int (x <<< (y &&& 31)) :: st) w) : jx_G E l Y d Q pc L (.int y :: .int x :: st) w := by
  intro p e R s m args below meth c H locs cells slots ls C hH hL hq hc hs
  exact lv_ishl C.ex C.code hd (k p e R s m args below meth c H locs cells slots ls C hH hL hq hc hs)
theorem jx_ishr {x y : Int32} (hd : decode Y.2.2.1 pc = .ok (.ishr, 1)) (k : jx_G E l Y d Q (pc + 1) L (.int (x >>> (y &&& 31)) :: st) w) : jx_G E l Y d Q pc L (.int y :: .int x :: st) w := by
  intro p e R s m args below meth c H locs cells slots ls C hH hL hq hc hs
  exact lv_ishr C.ex C.code hd (k p e R s m args below meth c H locs cells slots ls C hH hL hq hc hs)
theorem jx_idiv {x y : Int32} (hd : decode Y.2.2.1 pc = .ok (.idiv, 1)) (hne : ¬ y = 0) (k : jx_G E l Y d Q (pc + 1) L (.int (x / y) :: st) w) : jx_G E l Y d Q pc L (.int y :: .int x :: st) w := by
  intro p e R s m args below meth c H locs cells slots ls C hH hL hq hc hs
  exact lv_idiv C.ex C.code hd hne (k p e R s m args below meth c H locs cells slots ls C hH hL hq hc hs)
theorem jx_irem {x y : Int32} (hd : decode Y.2.2.1 pc = .ok (.irem, 1)) (hne : ¬ y = 0) (k : jx_G E l Y d Q (pc + 1) L (.int (x - x / y * y) :: st) w) : jx_G E l Y d Q pc L (.int y :: .int x :: st) w := by
  intro p e R s m args below meth c H locs cells slots ls C hH hL hq hc hs
  exact lv_irem C.ex C.code hd hne (k p e R s m args below meth c H locs cells slots ls C hH hL hq hc hs)
theorem jx_lcmp {x y : Int64} (hd : decode Y.2.2.1 pc = .ok (.lcmp, 1)) (k : jx_G E l Y d Q (pc + 1) L (.int (lg_cmp x y) :: st) w) : jx_G E l Y d Q pc L (.long y :: .long x :: st) w := by
  intro p e R s m args below meth c H locs cells slots ls C hH hL hq hc hs
  exact W.lcmp C.ex C.code hd (k p e R s m args below meth c H locs cells slots ls C hH hL hq hc hs)
theorem jx_i2l {x : Int32} {v : Int64} (hd : decode Y.2.2.1 pc = .ok (.i2l, 1)) (hv : x.toInt64 = v) (k : jx_G E l Y d Q (pc + 1) L (.long v :: st) w) : jx_G E l Y d Q pc L (.int x :: st) w := by
  intro p e R s m args below meth c H locs cells slots ls C hH hL hq hc hs
  exact lv_i2l C.ex C.code hd hv (k p e R s m args below meth c H locs cells slots ls C hH hL hq hc hs)
theorem jx_l2i {x : Int64} {v : Int32} (hd : decode Y.2.2.1 pc = .ok (.l2i, 1)) (hv : x.toInt32 = v) (k : jx_G E l Y d Q (pc + 1) L (.int v :: st) w) : jx_G E l Y d Q pc L (.long x :: st) w := by
  intro p e R s m args below meth c H locs cells slots ls C hH hL hq hc hs
  exact lv_l2i C.ex C.code hd hv (k p e R s m args below meth c H locs cells slots ls C hH hL hq hc hs)
theorem jx_dup {va : Value} (hd : decode Y.2.2.1 pc = .ok (.dup, 1)) (hva : va.category = 1) (k : jx_G E l Y d Q (pc + 1) L (va :: va :: st) w) : jx_G E l Y d Q pc L (va :: st) w := by
  intro p e R s m args below meth c H locs cells slots ls C hH hL hq hc hs
  exact lv_dup C.ex C.code hd hva (k p e R s m args below meth c H locs cells slots ls C hH hL hq hc hs)
theorem jx_pop {va : Value} (hd : decode Y.2.2.1 pc = .ok (.pop, 1)) (hva : va.category = 1) (k : jx_G E l Y d Q (pc + 1) L (st) w) : jx_G E l Y d Q pc L (va :: st) w := by
  intro p e R s m args below meth c H locs cells slots ls C hH hL hq hc hs
  exact lv_pop C.ex C.code hd hva (k p e R s m args below meth c H locs cells slots ls C hH hL hq hc hs)
theorem jx_dup2 {va vb : Value} (hd : decode Y.2.2.1 pc = .ok (.dup2, 1)) (hva : va.category = 1) (hvb : vb.category = 1) (k : jx_G E l Y d Q (pc + 1) L (va :: vb :: va :: vb :: st) w) : jx_G E l Y d Q pc L (va :: vb :: st) w := by
  intro p e R s m args below meth c H locs cells slots ls C hH hL hq hc hs
  exact lv_dup2_11 C.ex C.code hd hva hvb (k p e R s m args below meth c H locs cells slots ls C hH hL hq hc hs)
theorem jx_if_eq {x : Int32} {off : Int} {tgt : Nat} (hd : decode Y.2.2.1 pc = .ok (.ifCond .eq off, 3)) (ht : (pc : Int) + off = (tgt : Int)) (kt : x = 0 → jx_G E l Y d Q tgt L st w) (kf : ¬ x = 0 → jx_G E l Y d Q (pc + 3) L st w) : jx_G E l Y d Q pc L (.int x :: st) w := by
  intro p e R s m args below meth c H locs cells slots ls C hH hL hq hc hs
  exact lv_if_eq C.ex C.code hd ht (fun z => kt z p e R s m args below meth c H locs cells slots ls C hH hL hq hc hs) (fun z => kf z p e R s m args below meth c H locs cells slots ls C hH hL hq hc hs)
theorem jx_icmp_eq {x y : Int32} {off : Int} {tgt : Nat} (hd : decode Y.2.2.1 pc = .ok (.if_icmp .eq off, 3)) (ht : (pc : Int) + off = (tgt : Int)) (kt : x = y → jx_G E l Y d Q tgt L st w) (kf : ¬ x = y → jx_G E l Y d Q (pc + 3) L st w) : jx_G E l Y d Q pc L (.int y :: .int x :: st) w := by
  intro p e R s m args below meth c H locs cells slots ls C hH hL hq hc hs
  exact lv_icmp_eq C.ex C.code hd ht (fun z => kt z p e R s m args below meth c H locs cells slots ls C hH hL hq hc hs) (fun z => kf z p e R s m args below meth c H locs cells slots ls C hH hL hq hc hs)
theorem jx_if_ne {x : Int32} {off : Int} {tgt : Nat} (hd : decode Y.2.2.1 pc = .ok (.ifCond .ne off, 3)) (ht : (pc : Int) + off = (tgt : Int)) (kt : ¬ x = 0 → jx_G E l Y d Q tgt L st w) (kf : x = 0 → jx_G E l Y d Q (pc + 3) L st w) : jx_G E l Y d Q pc L (.int x :: st) w := by
  intro p e R s m args below meth c H locs cells slots ls C hH hL hq hc hs
  exact lv_if_ne C.ex C.code hd ht (fun z => kt z p e R s m args below meth c H locs cells slots ls C hH hL hq hc hs) (fun z => kf z p e R s m args below meth c H locs cells slots ls C hH hL hq hc hs)
theorem jx_icmp_ne {x y : Int32} {off : Int} {tgt : Nat} (hd : decode Y.2.2.1 pc = .ok (.if_icmp .ne off, 3)) (ht : (pc : Int) + off = (tgt : Int)) (kt : ¬ x = y → jx_G E l Y d Q tgt L st w) (kf : x = y → jx_G E l Y d Q (pc + 3) L st w) : jx_G E l Y d Q pc L (.int y :: .int x :: st) w := by
  intro p e R s m args below meth c H locs cells slots ls C hH hL hq hc hs
  exact lv_icmp_ne C.ex C.code hd ht (fun z => kt z p e R s m args below meth c H locs cells slots ls C hH hL hq hc hs) (fun z => kf z p e R s m args below meth c H locs cells slots ls C hH hL hq hc hs)
theorem jx_if_lt {x : Int32} {off : Int} {tgt : Nat} (hd : decode Y.2.2.1 pc = .ok (.ifCond .lt off, 3)) (ht : (pc : Int) + off = (tgt : Int)) (kt : x < 0 → jx_G E l Y d Q tgt L st w) (kf : ¬ x < 0 → jx_G E l Y d Q (pc + 3) L st w) : jx_G E l Y d Q pc L (.int x :: st) w := by
  intro p e R s m args below meth c H locs cells slots ls C hH hL hq hc hs
  exact lv_if_lt C.ex C.code hd ht (fun z => kt z p e R s m args below meth c H locs cells slots ls C hH hL hq hc hs) (fun z => kf z p e R s m args below meth c H locs cells slots ls C hH hL hq hc hs)
theorem jx_icmp_lt {x y : Int32} {off : Int} {tgt : Nat} (hd : decode Y.2.2.1 pc = .ok (.if_icmp .lt off, 3)) (ht : (pc : Int) + off = (tgt : Int)) (kt : x < y → jx_G E l Y d Q tgt L st w) (kf : ¬ x < y → jx_G E l Y d Q (pc + 3) L st w) : jx_G E l Y d Q pc L (.int y :: .int x :: st) w := by
  intro p e R s m args below meth c H locs cells slots ls C hH hL hq hc hs
  exact lv_icmp_lt C.ex C.code hd ht (fun z => kt z p e R s m args below meth c H locs cells slots ls C hH hL hq hc hs) (fun z => kf z p e R s m args below meth c H locs cells slots ls C hH hL hq hc hs)
theorem jx_if_ge {x : Int32} {off : Int} {tgt : Nat} (hd : decode Y.2.2.1 pc = .ok (.ifCond .ge off, 3)) (ht : (pc : Int) + off = (tgt : Int)) (kt : 0 ≤ x → jx_G E l Y d Q tgt L st w) (kf : ¬ 0 ≤ x → jx_G E l Y d Q (pc + 3) L st w) : jx_G E l Y d Q pc L (.int x :: st) w := by
  intro p e R s m args below meth c H locs cells slots ls C hH hL hq hc hs
  exact lv_if_ge C.ex C.code hd ht (fun z => kt z p e R s m args below meth c H locs cells slots ls C hH hL hq hc hs) (fun z => kf z p e R s m args below meth c H locs cells slots ls C hH hL hq hc hs)
theorem jx_icmp_ge {x y : Int32} {off : Int} {tgt : Nat} (hd : decode Y.2.2.1 pc = .ok (.if_icmp .ge off, 3)) (ht : (pc : Int) + off = (tgt : Int)) (kt : y ≤ x → jx_G E l Y d Q tgt L st w) (kf : ¬ y ≤ x → jx_G E l Y d Q (pc + 3) L st w) : jx_G E l Y d Q pc L (.int y :: .int x :: st) w := by
  intro p e R s m args below meth c H locs cells slots ls C hH hL hq hc hs
  exact lv_icmp_ge C.ex C.code hd ht (fun z => kt z p e R s m args below meth c H locs cells slots ls C hH hL hq hc hs) (fun z => kf z p e R s m args below meth c H locs cells slots ls C hH hL hq hc hs)
theorem jx_if_gt {x : Int32} {off : Int} {tgt : Nat} (hd : decode Y.2.2.1 pc = .ok (.ifCond .gt off, 3)) (ht : (pc : Int) + off = (tgt : Int)) (kt : 0 < x → jx_G E l Y d Q tgt L st w) (kf : ¬ 0 < x → jx_G E l Y d Q (pc + 3) L st w) : jx_G E l Y d Q pc L (.int x :: st) w := by
  intro p e R s m args below meth c H locs cells slots ls C hH hL hq hc hs
  exact lv_if_gt C.ex C.code hd ht (fun z => kt z p e R s m args below meth c H locs cells slots ls C hH hL hq hc hs) (fun z => kf z p e R s m args below meth c H locs cells slots ls C hH hL hq hc hs)
theorem jx_icmp_gt {x y : Int32} {off : Int} {tgt : Nat} (hd : decode Y.2.2.1 pc = .ok (.if_icmp .gt off, 3)) (ht : (pc : Int) + off = (tgt : Int)) (kt : y < x → jx_G E l Y d Q tgt L st w) (kf : ¬ y < x → jx_G E l Y d Q (pc + 3) L st w) : jx_G E l Y d Q pc L (.int y :: .int x :: st) w := by
  intro p e R s m args below meth c H locs cells slots ls C hH hL hq hc hs
  exact lv_icmp_gt C.ex C.code hd ht (fun z => kt z p e R s m args below meth c H locs cells slots ls C hH hL hq hc hs) (fun z => kf z p e R s m args below meth c H locs cells slots ls C hH hL hq hc hs)
theorem jx_if_le {x : Int32} {off : Int} {tgt : Nat} (hd : decode Y.2.2.1 pc = .ok (.ifCond .le off, 3)) (ht : (pc : Int) + off = (tgt : Int)) (kt : x ≤ 0 → jx_G E l Y d Q tgt L st w) (kf : ¬ x ≤ 0 → jx_G E l Y d Q (pc + 3) L st w) : jx_G E l Y d Q pc L (.int x :: st) w := by
  intro p e R s m args below meth c H locs cells slots ls C hH hL hq hc hs
  exact lv_if_le C.ex C.code hd ht (fun z => kt z p e R s m args below meth c H locs cells slots ls C hH hL hq hc hs) (fun z => kf z p e R s m args below meth c H locs cells slots ls C hH hL hq hc hs)
theorem jx_icmp_le {x y : Int32} {off : Int} {tgt : Nat} (hd : decode Y.2.2.1 pc = .ok (.if_icmp .le off, 3)) (ht : (pc : Int) + off = (tgt : Int)) (kt : x ≤ y → jx_G E l Y d Q tgt L st w) (kf : ¬ x ≤ y → jx_G E l Y d Q (pc + 3) L st w) : jx_G E l Y d Q pc L (.int y :: .int x :: st) w := by
  intro p e R s m args below meth c H locs cells slots ls C hH hL hq hc hs
  exact lv_icmp_le C.ex C.code hd ht (fun z => kt z p e R s m args below meth c H locs cells slots ls C hH hL hq hc hs) (fun z => kf z p e R s m args below meth c H locs cells slots ls C hH hL hq hc hs)
theorem jx_goto {off : Int} {tgt : Nat} (hd : decode Y.2.2.1 pc = .ok (.goto off, 3)) (ht : (pc : Int) + off = (tgt : Int)) (k : jx_G E l Y d Q tgt L st w) : jx_G E l Y d Q pc L st w := by
  intro p e R s m args below meth c H locs cells slots ls C hH hL hq hc hs
  exact lv_goto C.ex C.code hd ht (k p e R s m args below meth c H locs cells slots ls C hH hL hq hc hs)
theorem jx_ifnull {x : Nat} {off : Int} (hd : decode Y.2.2.1 pc = .ok (.ifnull off, 3)) (k : jx_G E l Y d Q (pc + 3) L st w) : jx_G E l Y d Q pc L (.ref x :: st) w := by
  intro p e R s m args below meth c H locs cells slots ls C hH hL hq hc hs
  exact lv_ifnull C.ex C.code hd (k p e R s m args below meth c H locs cells slots ls C hH hL hq hc hs)
theorem jx_ifnonnull {x : Nat} {off : Int} {tgt : Nat} (hd : decode Y.2.2.1 pc = .ok (.ifnonnull off, 3)) (ht : (pc : Int) + off = (tgt : Int)) (k : jx_G E l Y d Q tgt L st w) : jx_G E l Y d Q pc L (.ref x :: st) w := by
  intro p e R s m args below meth c H locs cells slots ls C hH hL hq hc hs
  exact lv_ifnonnull C.ex C.code hd ht (k p e R s m args below meth c H locs cells slots ls C hH hL hq hc hs)
theorem jx_istore_n {k : Fin 4} {i : Nat} {x : Int32} (hd : decode Y.2.2.1 pc = .ok (.istore_n k, 1)) (hi : (k : Nat) = i) (hn : i < L.length) (hf : jx_free L i = true) (kk : jx_G E l Y d Q (pc + 1) (L.set i (some (.int x))) st w) : jx_G E l Y d Q pc L (.int x :: st) w := by
  intro p e R s m args below meth c H locs cells slots ls C hH hL hq hc hs
  refine lv_istore_n C.ex C.code hd hi hL.has (by rw [← hL.2.2.1]; exact hn) rfl (fun ls2 h2 => ?_)
  exact kk p e R s m args below meth c H locs cells slots ls2 C hH (jx_st1 hL.2.2.1 (by rw [← hL.2.2.1]; exact hn) hf h2) hq hc hs
theorem jx_istore {i : Nat} {x : Int32} (hd : decode Y.2.2.1 pc = .ok (.istore i, 2)) (hn : i < L.length) (hf : jx_free L i = true) (kk : jx_G E l Y d Q (pc + 2) (L.set i (some (.int x))) st w) : jx_G E l Y d Q pc L (.int x :: st) w := by
  intro p e R s m args below meth c H locs cells slots ls C hH hL hq hc hs
  refine lv_istore C.ex C.code hd hL.has (by rw [← hL.2.2.1]; exact hn) rfl (fun ls2 h2 => ?_)
  exact kk p e R s m args below meth c H locs cells slots ls2 C hH (jx_st1 hL.2.2.1 (by rw [← hL.2.2.1]; exact hn) hf h2) hq hc hs
theorem jx_astore_n {k : Fin 4} {i : Nat} {x : Nat} (hd : decode Y.2.2.1 pc = .ok (.astore_n k, 1)) (hi : (k : Nat) = i) (hn : i < L.length) (hf : jx_free L i = true) (kk : jx_G E l Y d Q (pc + 1) (L.set i (some (.ref x))) st w) : jx_G E l Y d Q pc L (.ref x :: st) w := by
  intro p e R s m args below meth c H locs cells slots ls C hH hL hq hc hs
  refine lv_astore_n C.ex C.code hd hi hL.has (by rw [← hL.2.2.1]; exact hn) rfl (fun ls2 h2 => ?_)
  exact kk p e R s m args below meth c H locs cells slots ls2 C hH (jx_st1 hL.2.2.1 (by rw [← hL.2.2.1]; exact hn) hf h2) hq hc hs
theorem jx_astore {i : Nat} {x : Nat} (hd : decode Y.2.2.1 pc = .ok (.astore i, 2)) (hn : i < L.length) (hf : jx_free L i = true) (kk : jx_G E l Y d Q (pc + 2) (L.set i (some (.ref x))) st w) : jx_G E l Y d Q pc L (.ref x :: st) w := by
  intro p e R s m args below meth c H locs cells slots ls C hH hL hq hc hs
  refine lv_astore C.ex C.code hd hL.has (by rw [← hL.2.2.1]; exact hn) rfl (fun ls2 h2 => ?_)
  exact kk p e R s m args below meth c H locs cells slots ls2 C hH (jx_st1 hL.2.2.1 (by rw [← hL.2.2.1]; exact hn) hf h2) hq hc hs
theorem jx_lstore_n {k : Fin 4} {i : Nat} {x : Int64} (hd : decode Y.2.2.1 pc = .ok (.lstore_n k, 1)) (hi : (k : Nat) = i) (hn : i + 1 < L.length) (hf : jx_free L i = true) (kk : jx_G E l Y d Q (pc + 1) ((L.set i (some (.long x))).set (i + 1) none) st w) : jx_G E l Y d Q pc L (.long x :: st) w := by
  intro p e R s m args below meth c H locs cells slots ls C hH hL hq hc hs
  refine lv_lstore_n C.ex C.code hd hi hL.has (by rw [← hL.2.2.1]; exact hn) rfl (fun ls2 h2 => ?_)
  exact kk p e R s m args below meth c H locs cells slots ls2 C hH (jx_st2 hL.2.2.1 (by rw [← hL.2.2.1]; exact hn) hf h2) hq hc hs
theorem jx_lstore {i : Nat} {x : Int64} (hd : decode Y.2.2.1 pc = .ok (.lstore i, 2)) (hn : i + 1 < L.length) (hf : jx_free L i = true) (kk : jx_G E l Y d Q (pc + 2) ((L.set i (some (.long x))).set (i + 1) none) st w) : jx_G E l Y d Q pc L (.long x :: st) w := by
  intro p e R s m args below meth c H locs cells slots ls C hH hL hq hc hs
  refine lv_lstore C.ex C.code hd hL.has (by rw [← hL.2.2.1]; exact hn) rfl (fun ls2 h2 => ?_)
  exact kk p e R s m args below meth c H locs cells slots ls2 C hH (jx_st2 hL.2.2.1 (by rw [← hL.2.2.1]; exact hn) hf h2) hq hc hs
theorem jx_iinc {i : Nat} {n : Int} {x v : Int32} (hd : decode Y.2.2.1 pc = .ok (.iinc i n, 3)) (hl : L[i]? = some (some (.int x))) (hv : x + Int32.ofInt n = v) (hf : jx_free L i = true) (kk : jx_G E l Y d Q (pc + 3) (L.set i (some (.int v))) st w) : jx_G E l Y d Q pc L st w := by
  intro p e R s m args below meth c H locs cells slots ls C hH hL hq hc hs
  have hn : i < L.length := (List.getElem?_eq_some_iff.mp hl).1
  obtain ⟨j, hj⟩ := List.getElem?_of_mem (jx_mem_as.mpr hl)
  refine lv_iinc C.ex C.code hd hL.has hj hv (by rw [← hL.2.2.1]; exact hn) rfl (fun ls2 h2 => ?_)
  exact kk p e R s m args below meth c H locs cells slots ls2 C hH (jx_st1 hL.2.2.1 (by rw [← hL.2.2.1]; exact hn) hf h2) hq hc hs
theorem jx_tableOut {dflt lo hi : Int} {offs : Array Int} {len : Nat} {x : Int32} {tgt : Nat} (hd : decode Y.2.2.1 pc = .ok (.tableswitch dflt lo hi offs, len)) (h : x.toInt < lo ∨ hi < x.toInt) (ht : (pc : Int) + dflt = (tgt : Int)) (k : jx_G E l Y d Q tgt L st w) : jx_G E l Y d Q pc L (.int x :: st) w := by
  intro p e R s m args below meth c H locs cells slots ls C hH hL hq hc hs
  exact lv_tableOut C.ex C.code hd h ht (k p e R s m args below meth c H locs cells slots ls C hH hL hq hc hs)
theorem jx_tableIn {dflt lo hi : Int} {offs : Array Int} {len : Nat} {x : Int32} {off : Int} {tgt : Nat} (hd : decode Y.2.2.1 pc = .ok (.tableswitch dflt lo hi offs, len)) (h1 : ¬ x.toInt < lo) (h2 : ¬ hi < x.toInt) (ho : offs[(x.toInt - lo).toNat]? = some off) (ht : (pc : Int) + off = (tgt : Int)) (k : jx_G E l Y d Q tgt L st w) : jx_G E l Y d Q pc L (.int x :: st) w := by
  intro p e R s m args below meth c H locs cells slots ls C hH hL hq hc hs
  exact lv_tableIn C.ex C.code hd h1 h2 ho ht (k p e R s m args below meth c H locs cells slots ls C hH hL hq hc hs)
end JXR
end
section
/-! 12.heap: fields, arrays, new cells, returns -/
theorem jx_H.lt {E : jx_E} {w : jx_W} {H : Heap} {a : Nat} (h : jx_H E w H) (hk : jx_k w a ≠ 0) : a < jx_n w := by
  obtain ⟨cell, hc, -⟩ := h.2.2 a hk
  rw [← h.1]
  exact (Array.getElem?_eq_some_iff.mp hc).1
theorem jx_pic_obj {E : jx_E} {ci n : Nat} {V : Nat → Value} {cell : Cell} {q : vw_C} (hci : ci < 99) (hq : E.2.2[ci]? = some q) (h : jx_pic E (ci + 1) n V cell) : cell.vm = .none ∧ cell.cls = E.2.1.1 ci ∧ ∀ j, j < q.2.2 → cell.slots[E.2.1.2 ci j]? = some (V j) := by
  unfold jx_pic at h
  rw [if_pos (by omega)] at h
  obtain ⟨h1, h2, q', h3, h4⟩ := h
  rw [Nat.add_sub_cancel] at h2 h3 h4
  cases hq.symm.trans h3
  exact ⟨h1, h2, h4⟩
theorem jx_pic_arr {E : jx_E} {k n : Nat} {V : Nat → Value} {cell : Cell} (hk : ¬ k < 100) (h : jx_pic E k n V cell) : jx_arr E k n V cell := by
  unfold jx_pic at h
  rwa [if_neg hk] at h
theorem jx_H.putO {E : jx_E} {w : jx_W} {H H' : Heap} {a ci k : Nat} {q : vw_C} {cell : Cell} {v : Value} (h : jx_H E w H) (hci : ci < 99) (hq : E.2.2[ci]? = some q) (hk : k < q.2.2) (hap : ∀ i j, i < q.2.2 → j < q.2.2 → i ≠ j → E.2.1.2 ci i ≠ E.2.1.2 ci j) (hka : jx_k w a = ci + 1) (ho : E.1.heap.size ≤ a) (hc : H[a]? = some cell) (hp : jx_pic E (ci + 1) (jx_l w a) (jx_v w a) cell)
    (e1 : H'[a]? = some (cell.setSlot (E.2.1.2 ci k) v)) (e2 : H'.size = H.size) (e3 : ∀ q, q ≠ a → H'[q]? = H[q]?) : jx_H E (jx_put w a k v) H' := by
  refine ⟨e2.trans h.1, ⟨by rw [e2]; exact h.2.1.1, fun b hb => by rw [e3 b (by omega)]; exact h.2.1.2 b hb⟩, fun b hb => ?_⟩
  have hb' : jx_k w b ≠ 0 := hb
  by_cases e : b = a
  · subst e
    refine ⟨_, e1, ?_⟩
    show jx_pic E (jx_k w b) (jx_l w b) (fun i => if b = b ∧ i = k then v else jx_v w b i) _
    rw [hka]
    obtain ⟨h1, h2, h3⟩ := jx_pic_obj hci hq hp
    unfold jx_pic
    rw [if_pos (by omega)]
    refine ⟨h1, by rw [Nat.add_sub_cancel]; exact h2, q, by rw [Nat.add_sub_cancel]; exact hq, fun j hj => ?_⟩
    rw [Nat.add_sub_cancel]
    by_cases ej : j = k
    · subst ej
      have hlt := k2_hasslot (h3 j hj)
      simp [Cell.setSlot, hlt]
    · rw [slot_ne cell v (hap k j hk hj (fun z => ej z.symm)), h3 j hj]
      simp [ej]
  · obtain ⟨cb, hcb, hpb⟩ := h.2.2 b hb'
    refine ⟨cb, (e3 b e).trans hcb, ?_⟩
    show jx_pic E (jx_k w b) (jx_l w b) (fun i => if b = a ∧ i = k then v else jx_v w b i) cb
    have : (fun i => if b = a ∧ i = k then v else jx_v w b i) = jx_v w b := by
      funext i
      rw [if_neg (fun z => e z.1)]
    rw [this]
    exact hpb
theorem jx_H.putA {E : jx_E} {w : jx_W} {H H' : Heap} {a j : Nat} {cell : Cell} {v : Value} (h : jx_H E w H) (hka : ¬ jx_k w a < 100) (hj : j < jx_l w a) (ho : E.1.heap.size ≤ a) (hc : H[a]? = some cell) (hp : jx_arr E (jx_k w a) (jx_l w a) (jx_v w a) cell)
    (e1 : H'[a]? = some (cell.setSlot j v)) (e2 : H'.size = H.size) (e3 : ∀ q, q ≠ a → H'[q]? = H[q]?) : jx_H E (jx_put w a j v) H' := by
  refine ⟨e2.trans h.1, ⟨by rw [e2]; exact h.2.1.1, fun b hb => by rw [e3 b (by omega)]; exact h.2.1.2 b hb⟩, fun b hb => ?_⟩
  have hb' : jx_k w b ≠ 0 := hb
  by_cases e : b = a
  · subst e
    refine ⟨_, e1, ?_⟩
    show jx_pic E (jx_k w b) (jx_l w b) (fun i => if b = b ∧ i = j then v else jx_v w b i) _
    unfold jx_pic
    rw [if_neg hka]
    obtain ⟨h0, h1, h2, h3, h4⟩ := hp
    refine ⟨h0, h1, h2, by rw [k2_slotsz]; exact h3, fun i hi => ?_⟩
    by_cases ej : i = j
    · subst ej
      have hlt : i < cell.slots.size := by omega
      simp [Cell.setSlot, hlt]
    · rw [slot_ne cell v (fun z => ej z.symm), h4 i hi]
      simp [ej]
  · obtain ⟨cb, hcb, hpb⟩ := h.2.2 b hb'
    refine ⟨cb, (e3 b e).trans hcb, ?_⟩
    show jx_pic E (jx_k w b) (jx_l w b) (fun i => if b = a ∧ i = j then v else jx_v w b i) cb
    have : (fun i => if b = a ∧ i = j then v else jx_v w b i) = jx_v w b := by
      funext i
      rw [if_neg (fun z => e z.1)]
    rw [this]
    exact hpb
theorem jx_H.born {E : jx_E} {w : jx_W} {H H' : Heap} {kd len sl : Nat} {f : Nat → Value} {cell : Cell} (h : jx_H E w H) (e1 : H'[jx_n w]? = some cell) (hp : jx_pic E kd len f cell) (e2 : H'.size = jx_n w + 1) (e3 : ∀ q, q < jx_n w → H'[q]? = H[q]?) : jx_H E (jx_new w kd len sl f) H' := by
  have h1 := h.1
  have h2 := h.2.1.1
  refine ⟨e2, ⟨by omega, fun b hb => by rw [e3 b (by omega)]; exact h.2.1.2 b hb⟩, fun b hb => ?_⟩
  by_cases e : b = jx_n w
  · subst e
    refine ⟨cell, e1, ?_⟩
    simpa [jx_new, jx_k, jx_l, jx_v, jx_n] using hp
  · have hb' : jx_k w b ≠ 0 := by
      have : jx_k (jx_new w kd len sl f) b = jx_k w b := by
        show (if b = jx_n w then kd else jx_k w b) = _
        rw [if_neg e]
      rwa [this] at hb
    obtain ⟨cb, hcb, hpb⟩ := h.2.2 b hb'
    refine ⟨cb, (e3 b (h.lt hb')).trans hcb, ?_⟩
    show jx_pic E (if b = jx_n w then kd else jx_k w b) (if b = jx_n w then len else jx_l w b) (if b = jx_n w then f else jx_v w b) cb
    rw [if_neg e, if_neg e, if_neg e]
    exact hpb
theorem jx_H.skip {E : jx_E} {w : jx_W} {H H' : Heap} {sl : Nat} (h : jx_H E w H) (e2 : H'.size = jx_n w + 1) (e3 : ∀ q, q < jx_n w → H'[q]? = H[q]?) : jx_H E (jx_skip w sl) H' := by
  have h1 := h.1
  have h2 := h.2.1.1
  refine ⟨e2, ⟨by omega, fun b hb => by rw [e3 b (by omega)]; exact h.2.1.2 b hb⟩, fun b hb => ?_⟩
  have hb' : jx_k w b ≠ 0 := hb
  obtain ⟨cb, hcb, hpb⟩ := h.2.2 b hb'
  exact ⟨cb, (e3 b (h.lt hb')).trans hcb, hpb⟩
section JXH
variable {E : jx_E} {l : Launch} {Y : jx_Y} {d : Nat} {Q : jx_R → jx_W → Prop} {pc : Nat} {L : List (Option Value)} {st : List Value} {w : jx_W}
theorem jx_getf {ci k idx a : Nat} (hd : decode Y.2.2.1 pc = .ok (.getfield idx, 3)) (hF : jx_F E Y.1 idx ci k) (hk : jx_k w a = ci + 1) (K : jx_G E l Y d Q (pc + 3) L (jx_v w a k :: st) w) : jx_G E l Y d Q pc L (.ref a :: st) w := by
  intro p e R s m args below meth c H locs cells slots ls C hH hL hq hc hs
  obtain ⟨hci, q, hq1, hkN, ref, hsm, hlink⟩ := hF
  obtain ⟨cell, hcell, hpic⟩ := hH.2.2 a (by rw [hk]; omega)
  rw [hk] at hpic
  obtain ⟨hvm, hcls, hsl⟩ := jx_pic_obj hci hq1 hpic
  obtain ⟨hKn, hlay, hap⟩ := C.ok ci q hq1
  obtain ⟨hS, hfc, kC, hkC, hkind⟩ := u_Kn_moved C.warm.alike hKn
  obtain ⟨cf, kf, fi, f, hi, hfs⟩ := hS k hkN
  have hi2 : s.fieldFound? ref (q.2.1 k).2.1 (q.2.1 k).2.2.1 = some (cf, kf, fi, f) := by
    rcases hsm with rfl | h
    · exact hi
    · exact u_same (jx_mv (args := args) C.warm rfl h) _ hi
  have hst := (u_facts hfc hkC (jx_lays (args := args) C.warm (hlay k hkN)) hi).1
  have hu : cell.vm ≠ .unknown := by rw [hvm]; exact fun z => by cases z
  have hv : cell.slots[f.slot]? = some (jx_v w a k) := by rw [hfs]; exact hsl k hkN
  rcases hlink with h | ⟨host, h⟩
  · exact W.getf C.ex C.code C.own (jx_mv C.warm rfl h) hi2 hst hcell hu hv rfl rfl hd (K p e R s m args below meth c H locs cells slots ls C hH hL hq hc hs)
  · exact va_Wgetf C.ex C.code C.own (jx_mv C.warm rfl h) hi2 hst hcell hu hv rfl rfl hd (K p e R s m args below meth c H locs cells slots ls C hH hL hq hc hs)
theorem jx_locs {locs : List Loc} {b a i : Nat} (hq : ∀ q ∈ locs, b ≤ q.base) (ho : b ≤ a) : ∀ q ∈ locs ++ [(⟨a, i⟩ : Loc)], b ≤ q.base := by
  intro q hm
  rcases List.mem_append.mp hm with h | h
  · exact hq q h
  · rw [List.mem_singleton] at h
    subst h
    exact ho
theorem jx_putf {ci k idx a : Nat} {v : Value} {ty : FieldType} (hd : decode Y.2.2.1 pc = .ok (.putfield idx, 3)) (hF : jx_F E Y.1 idx ci k) (hT : jx_Ft E ci k ty false) (hk : jx_k w a = ci + 1) (ho : E.1.heap.size ≤ a) (hn : narrow ty v = v) (hfit : fits ty v = true) (K : jx_G E l Y d Q (pc + 3) L st (jx_put w a k v)) : jx_G E l Y d Q pc L (v :: .ref a :: st) w := by
  intro p e R s m args below meth c H locs cells slots ls C hH hL hq hc hs
  obtain ⟨hci, q, hq1, hkN, ref, hsm, hlink⟩ := hF
  obtain ⟨q', hq2, hty, hfin⟩ := hT
  cases hq1.symm.trans hq2
  obtain ⟨cell, hcell, hpic⟩ := hH.2.2 a (by rw [hk]; omega)
  rw [hk] at hpic
  obtain ⟨hvm, hcls, hsl⟩ := jx_pic_obj hci hq1 hpic
  obtain ⟨hKn, hlay, hap⟩ := C.ok ci q hq1
  obtain ⟨hS, hfc, kC, hkC, hkind⟩ := u_Kn_moved C.warm.alike hKn
  obtain ⟨cf, kf, fi, f, hi, hfs⟩ := hS k hkN
  have hi2 : s.fieldFound? ref (q.2.1 k).2.1 (q.2.1 k).2.2.1 = some (cf, kf, fi, f) := by
    rcases hsm with rfl | h
    · exact hi
    · exact u_same (jx_mv (args := args) C.warm rfl h) _ hi
  have hst := (u_facts hfc hkC (jx_lays (args := args) C.warm (hlay k hkN)) hi).1
  have hly := jx_mv (args := args) C.warm (jx_lay_ok q.1 q.2.1 k) (hlay k hkN)
  unfold u_lay at hly
  rw [if_neg (by rw [hfin]; decide)] at hly
  have h6 := u_store hfc hkC hkind hly hi hty hn hfit
  have hlt : f.slot < cell.slots.size := by rw [hfs]; exact k2_hasslot (hsl k hkN)
  have key : ∀ H' : Heap, H'[a]? = some (cell.setSlot f.slot v) → H'.size = H.size → (∀ q, q ≠ a → H'[q]? = H[q]?) → W p l e R s m args below meth c H' (locs ++ [⟨a, f.slot⟩]) cells slots (jx_P E R s below Q) (F0 m (pc + 3) ls st) := by
    intro H' e1 e2 e3
    rw [hfs] at e1
    exact K p e R s m args below meth c H' _ cells slots ls C (hH.putO hci hq1 hkN hap hk ho hcell hpic e1 e2 e3) hL (jx_locs hq ho) hc hs
  rcases hlink with h | ⟨host, h⟩
  · exact W.putK C.ex C.code (f := f) ⟨C.own, jx_mv C.warm rfl h, ⟨cf, kf, fi, hi2⟩, hst⟩ (by rw [hcls]; exact h6) hcell hvm hlt rfl rfl hd key
  · exact va_WputK C.ex C.code (f := f) C.own (jx_mv C.warm rfl h) hi2 hst (by rw [hcls]; exact h6) hcell hvm hlt rfl rfl hd key
/-- a final field of the method's own class, in its constructor -/
theorem jx_putF {ci k idx a : Nat} {v : Value} {ty : FieldType} (hd : decode Y.2.2.1 pc = .ok (.putfield idx, 3)) (hF : jx_F E Y.1 idx ci k) (hl : ∃ q : vw_C, E.2.2[ci]? = some q ∧ (q.2.1 k).1 = Y.1 ∧ (Jvm.Cond.fieldLink Y.1 idx (q.2.1 k).1 (q.2.1 k).2.1 (q.2.1 k).2.2.1).before #[] E.1 = true) (hT : jx_Ft E ci k ty true) (hin : Y.2.1 = "<init>") (hk : jx_k w a = ci + 1) (ho : E.1.heap.size ≤ a) (hn : narrow ty v = v) (hfit : fits ty v = true) (K : jx_G E l Y d Q (pc + 3) L st (jx_put w a k v)) : jx_G E l Y d Q pc L (v :: .ref a :: st) w := by
  intro p e R s m args below meth c H locs cells slots ls C hH hL hq hc hs
  obtain ⟨hci, q, hq1, hkN, -⟩ := hF
  obtain ⟨q', hq2, hty, hfin⟩ := hT
  cases hq1.symm.trans hq2
  obtain ⟨q', hq2, hdecl, hlink⟩ := hl
  cases hq1.symm.trans hq2
  obtain ⟨cell, hcell, hpic⟩ := hH.2.2 a (by rw [hk]; omega)
  rw [hk] at hpic
  obtain ⟨hvm, hcls, hsl⟩ := jx_pic_obj hci hq1 hpic
  obtain ⟨hKn, hlay, hap⟩ := C.ok ci q hq1
  obtain ⟨hS, hfc, kC, hkC, hkind⟩ := u_Kn_moved C.warm.alike hKn
  obtain ⟨cf, kf, fi, f, hi, hfs⟩ := hS k hkN
  have hst := (u_facts hfc hkC (jx_lays (args := args) C.warm (hlay k hkN)) hi).1
  have hly := jx_mv (args := args) C.warm (jx_lay_ok q.1 q.2.1 k) (hlay k hkN)
  unfold u_lay at hly
  rw [if_pos hfin] at hly
  have hcf : m.cls = cf := by
    obtain ⟨_, _, c', _, _, _, -, -, hf', -, -, -, hown2, -⟩ := Cond.laysFinal_spec hly
    have e1 : c' = cf := by have := hi.symm.trans hf'; simp at this; exact this.1.symm
    rw [hdecl] at hown2
    rw [← e1]; exact Option.some.inj (C.own.symm.trans hown2)
  have h6 := u_fits hfc hkC hkind (Or.inr hly) hi hty hn hfit
  have hlt : f.slot < cell.slots.size := by rw [hfs]; exact k2_hasslot (hsl k hkN)
  refine W.putFinK C.ex C.code C.own (jx_mv C.warm rfl hlink) hi hst hcf (C.name.trans hin) (by rw [hcls]; exact h6) hcell hvm hlt rfl rfl hd fun H' e1 e2 e3 => ?_
  rw [hfs] at e1
  exact K p e R s m args below meth c H' _ cells slots ls C (hH.putO hci hq1 hkN hap hk ho hcell hpic e1 e2 e3) hL (jx_locs hq ho) hc hs
theorem jx_nw {ci n idx : Nat} {f : Nat → Value} (hd : decode Y.2.2.1 pc = .ok (.new idx, 3)) (hN : jx_N E Y.1 idx ci n f) (h1 : 1 ≤ jx_c w) (h2 : n ≤ jx_s w) (K : jx_G E l Y d Q (pc + 3) L (.ref (jx_n w) :: st) (jx_new w (ci + 1) 0 n f)) : jx_G E l Y d Q pc L st w := by
  intro p e R s m args below meth c H locs cells slots ls C hH hL hq hc hs
  obtain ⟨hci, q, hq1, hqn, hcl, hins, hini, ty, hty, hdf⟩ := hN
  subst hqn
  obtain ⟨hKn, hlay, hap⟩ := C.ok ci q hq1
  have hKs := u_Kn_moved C.warm.alike hKn
  refine W.newcK C.ex C.code C.own (jx_mv C.warm rfl hcl) (jx_mv C.warm rfl hins) (jx_mv C.warm rfl hini) rfl hd (by omega) (by omega) hKs.2.1 hH.1 fun H1 kC hkC e1 z1 o1 => ?_
  have hb := u_born (ws := u_ws q.1 q.2.1 q.2.2) (s := s) (args := args) (o := jx_n w) (H := H1) ty (fun x hx => by
    obtain ⟨j, hj, rfl⟩ := List.mem_map.mp hx
    exact jx_mv C.warm (jx_lay_ok q.1 q.2.1 j) (hlay j (List.mem_range.mp hj))) (fun x hx => hx) hKs hkC e1 hty
  obtain ⟨cell, g1, g2, g3, g4⟩ := hb
  refine K p e R s m args below meth c H1 locs (cells + 1) (slots + q.2.2) ls C (hH.born g1 ?_ z1 o1) hL hq (by show cells + 1 + (jx_c w - 1) ≤ _; omega) (by show slots + q.2.2 + (jx_s w - q.2.2) ≤ _; omega)
  unfold jx_pic
  rw [if_pos (by omega)]
  exact ⟨g3, by rw [Nat.add_sub_cancel]; exact g2, q, by rw [Nat.add_sub_cancel]; exact hq1, fun j hj => by rw [Nat.add_sub_cancel, ← hdf j hj]; exact g4 j hj⟩
theorem jx_ala {a k : Nat} {n : Int32} (hd : decode Y.2.2.1 pc = .ok (.arraylength, 1)) (hk : jx_k w a = k) (hk2 : 100 ≤ k) (hn : (jx_l w a).toInt32 = n) (K : jx_G E l Y d Q (pc + 1) L (.int n :: st) w) : jx_G E l Y d Q pc L (.ref a :: st) w := by
  intro p e R s m args below meth c H locs cells slots ls C hH hL hq hc hs
  obtain ⟨cell, hcell, hpic⟩ := hH.2.2 a (by omega)
  obtain ⟨h0, h1, h2, h3, h4⟩ := jx_pic_arr (by omega) hpic
  exact W.alen C.ex C.code hcell (State.isArrayOf_alike C.warm.alike h2) (by rw [h3]; exact hn) rfl rfl hd (K p e R s m args below meth c H locs cells slots ls C hH hL hq hc hs)
theorem jx_iald {a : Nat} {j : Int32} (hd : decode Y.2.2.1 pc = .ok (.iaload, 1)) (hk : jx_k w a = 100) (hin : vp_in j (jx_l w a)) (K : jx_G E l Y d Q (pc + 1) L (jx_v w a j.toNatClampNeg :: st) w) : jx_G E l Y d Q pc L (.int j :: .ref a :: st) w := by
  intro p e R s m args below meth c H locs cells slots ls C hH hL hq hc hs
  obtain ⟨cell, hcell, hpic⟩ := hH.2.2 a (by rw [hk]; decide)
  obtain ⟨h0, h1, h2, h3, h4⟩ := jx_pic_arr (by rw [hk]; decide) hpic
  rw [hk] at h2
  have hin2 : ¬ (j < 0 ∨ cell.slots.size ≤ j.toNatClampNeg) := by rw [h3]; exact hin
  exact W.iald C.ex C.code hcell (State.isArrayOf_alike C.warm.alike h2) h1 hin2 (h4 _ (by unfold vp_in at hin; omega)) rfl rfl hd (K p e R s m args below meth c H locs cells slots ls C hH hL hq hc hs)
theorem jx_lald {a : Nat} {j : Int32} (hd : decode Y.2.2.1 pc = .ok (.laload, 1)) (hk : jx_k w a = 101) (hin : vp_in j (jx_l w a)) (K : jx_G E l Y d Q (pc + 1) L (jx_v w a j.toNatClampNeg :: st) w) : jx_G E l Y d Q pc L (.int j :: .ref a :: st) w := by
  intro p e R s m args below meth c H locs cells slots ls C hH hL hq hc hs
  obtain ⟨cell, hcell, hpic⟩ := hH.2.2 a (by rw [hk]; decide)
  obtain ⟨h0, h1, h2, h3, h4⟩ := jx_pic_arr (by rw [hk]; decide) hpic
  rw [hk] at h2
  have hin2 : ¬ (j < 0 ∨ cell.slots.size ≤ j.toNatClampNeg) := by rw [h3]; exact hin
  exact W.lald C.ex C.code hcell (State.isArrayOf_alike C.warm.alike h2) h1 hin2 (h4 _ (by unfold vp_in at hin; omega)) rfl rfl hd (K p e R s m args below meth c H locs cells slots ls C hH hL hq hc hs)
theorem jx_zald {a : Nat} {j : Int32} (hd : decode Y.2.2.1 pc = .ok (.baload, 1)) (hk : jx_k w a = 102) (hin : vp_in j (jx_l w a)) (K : jx_G E l Y d Q (pc + 1) L (jx_v w a j.toNatClampNeg :: st) w) : jx_G E l Y d Q pc L (.int j :: .ref a :: st) w := by
  intro p e R s m args below meth c H locs cells slots ls C hH hL hq hc hs
  obtain ⟨cell, hcell, hpic⟩ := hH.2.2 a (by rw [hk]; decide)
  obtain ⟨h0, h1, h2, h3, h4⟩ := jx_pic_arr (by rw [hk]; decide) hpic
  rw [hk] at h2
  have hin2 : ¬ (j < 0 ∨ cell.slots.size ≤ j.toNatClampNeg) := by rw [h3]; exact hin
  exact W.zald C.ex C.code hcell (State.isArrayOf_alike C.warm.alike h2) h1 hin2 (h4 _ (by unfold vp_in at hin; omega)) rfl rfl hd (K p e R s m args below meth c H locs cells slots ls C hH hL hq hc hs)
theorem jx_aald {a k : Nat} {j : Int32} (hd : decode Y.2.2.1 pc = .ok (.aaload, 1)) (hk : jx_k w a = k) (hk2 : 100 ≤ k) (hr : (jx_ty k).isReference = true) (hin : vp_in j (jx_l w a)) (K : jx_G E l Y d Q (pc + 1) L (jx_v w a j.toNatClampNeg :: st) w) : jx_G E l Y d Q pc L (.int j :: .ref a :: st) w := by
  intro p e R s m args below meth c H locs cells slots ls C hH hL hq hc hs
  obtain ⟨cell, hcell, hpic⟩ := hH.2.2 a (by omega)
  obtain ⟨h0, h1, h2, h3, h4⟩ := jx_pic_arr (by omega) hpic
  rw [hk] at h2
  have hin2 : ¬ (j < 0 ∨ cell.slots.size ≤ j.toNatClampNeg) := by rw [h3]; exact hin
  exact W.aald C.ex C.code hcell (State.isArrayOf_alike C.warm.alike h2) hr h1 hin2 (h4 _ (by unfold vp_in at hin; omega)) rfl rfl hd (K p e R s m args below meth c H locs cells slots ls C hH hL hq hc hs)
theorem jx_iast {a : Nat} {j : Int32} {x : Int32} (hd : decode Y.2.2.1 pc = .ok (.iastore, 1)) (hk : jx_k w a = 100) (hin : vp_in j (jx_l w a)) (ho : E.1.heap.size ≤ a) (K : jx_G E l Y d Q (pc + 1) L st (jx_put w a j.toNatClampNeg (.int x))) : jx_G E l Y d Q pc L (.int x :: .int j :: .ref a :: st) w := by
  intro p e R s m args below meth c H locs cells slots ls C hH hL hq hc hs
  obtain ⟨cell, hcell, hpic⟩ := hH.2.2 a (by rw [hk]; decide)
  have hpa := jx_pic_arr (by rw [hk]; decide) hpic
  obtain ⟨h0, h1, h2, h3, h4⟩ := id hpa
  rw [hk] at h2
  have hin2 : ¬ (j < 0 ∨ cell.slots.size ≤ j.toNatClampNeg) := by rw [h3]; exact hin
  refine W.iast C.ex C.code hcell (State.isArrayOf_alike C.warm.alike h2) h1 hin2 rfl rfl hd fun H2 e1 e2 e3 => ?_
  exact K p e R s m args below meth c H2 _ cells slots ls C (hH.putA (by rw [hk]; decide) (by unfold vp_in at hin; omega) ho hcell hpa e1 e2 e3) hL (jx_locs hq ho) hc hs
theorem jx_last {a : Nat} {j : Int32} {x : Int64} (hd : decode Y.2.2.1 pc = .ok (.lastore, 1)) (hk : jx_k w a = 101) (hin : vp_in j (jx_l w a)) (ho : E.1.heap.size ≤ a) (K : jx_G E l Y d Q (pc + 1) L st (jx_put w a j.toNatClampNeg (.long x))) : jx_G E l Y d Q pc L (.long x :: .int j :: .ref a :: st) w := by
  intro p e R s m args below meth c H locs cells slots ls C hH hL hq hc hs
  obtain ⟨cell, hcell, hpic⟩ := hH.2.2 a (by rw [hk]; decide)
  have hpa := jx_pic_arr (by rw [hk]; decide) hpic
  obtain ⟨h0, h1, h2, h3, h4⟩ := id hpa
  rw [hk] at h2
  have hin2 : ¬ (j < 0 ∨ cell.slots.size ≤ j.toNatClampNeg) := by rw [h3]; exact hin
  refine W.last C.ex C.code hcell (State.isArrayOf_alike C.warm.alike h2) h1 hin2 rfl rfl hd fun H2 e1 e2 e3 => ?_
  exact K p e R s m args below meth c H2 _ cells slots ls C (hH.putA (by rw [hk]; decide) (by unfold vp_in at hin; omega) ho hcell hpa e1 e2 e3) hL (jx_locs hq ho) hc hs
/-- a new array of numbers -/
theorem jx_newa {kd N : Nat} {n : Int32} {at0 : ArrayType} {dv : Value} (hd : decode Y.2.2.1 pc = .ok (.newarray at0, 2)) (ha : (Jvm.Cond.arrayClass (newarray.typeOf at0)).before #[] E.1 = true) (hty : newarray.typeOf at0 = jx_ty kd) (hkd : 100 ≤ kd) (hdv : defaultValue (newarray.typeOf at0) = dv) (hn : ¬ n < 0) (hN : n.toNatClampNeg = N) (hb : N * 8 ≤ 536870912) (h1 : 1 ≤ jx_c w) (h2 : N ≤ jx_s w) (K : jx_G E l Y d Q (pc + 2) L (.ref (jx_n w) :: st) (jx_new w kd N N (fun _ => dv))) : jx_G E l Y d Q pc L (.int n :: st) w := by
  intro p e R s m args below meth c H locs cells slots ls C hH hL hq hc hs
  have hby : N * componentBytes (newarray.typeOf at0) ≤ 536870912 := by
    refine Nat.le_trans (Nat.mul_le_mul_left N ?_) hb
    cases at0 <;> decide
  refine W.newaK C.ex C.code (word_at C.warm (Or.inr ⟨_, rfl⟩) ha) rfl hd rfl hn hN hby (by omega) (by omega) hH.1 fun H1 cA e1 z1 o1 hA => ?_
  subst hdv
  refine K p e R s m args below meth c H1 locs (cells + 1) (slots + N) ls C (hH.born e1 ?_ z1 o1) hL hq (by show cells + 1 + (jx_c w - 1) ≤ _; omega) (by show slots + N + (jx_s w - N) ≤ _; omega)
  unfold jx_pic
  rw [if_neg (by omega)]
  refine ⟨(fun e5 => by subst e5; cases at0 <;> simp [jx_ty, newarray.typeOf] at hty), (by intro z; cases z), ?_, (by rw [arrV_size]), (fun j hj => by simp [arrV, hj])⟩
  rw [← hty]
  exact State.isArrayOf_alike C.warm.alike.symm (hA N _)
theorem jx_iret {v : Int32} (hd : decode Y.2.2.1 pc = .ok (.ireturn, 1)) (hr : Y.2.2.2.2.1 = some .int) (hQ : Q (.inr (some (.int v))) w) : jx_G E l Y d Q pc L [.int v] w := by
  intro p e R s m args below meth c H locs cells slots ls C hH hL hq hc hs
  refine jx_mono ?_ (W.iret (Qc := fun _ _ o t => o = .returned (some (.int v)) ∧ t.heap = H) (free := fun x => E.1.heap.size ≤ x) C.ex C.code (C.ret.trans hr) (fun t ht _ => ⟨rfl, ht⟩) hq hd C.locks)
  rintro t ⟨o, t1, t2, ⟨rfl, t3⟩, L2, ⟨-, t5, t6⟩, t7⟩
  exact ⟨_, _, w, L2, cells, slots, t1, t2, hQ, rfl, by rw [t3]; exact hH, t5, t6, t7, hc, hs⟩
theorem jx_lret {v : Int64} (hd : decode Y.2.2.1 pc = .ok (.lreturn, 1)) (hr : Y.2.2.2.2.1 = some .long) (hQ : Q (.inr (some (.long v))) w) : jx_G E l Y d Q pc L [.long v] w := by
  intro p e R s m args below meth c H locs cells slots ls C hH hL hq hc hs
  refine jx_mono ?_ (W.lret (Qc := fun _ _ o t => o = .returned (some (.long v)) ∧ t.heap = H) (free := fun x => E.1.heap.size ≤ x) C.ex C.code (C.ret.trans hr) (fun t ht _ => ⟨rfl, ht⟩) hq hd C.locks)
  rintro t ⟨o, t1, t2, ⟨rfl, t3⟩, L2, ⟨-, t5, t6⟩, t7⟩
  exact ⟨_, _, w, L2, cells, slots, t1, t2, hQ, rfl, by rw [t3]; exact hH, t5, t6, t7, hc, hs⟩
theorem jx_zret {v : Int32} {ty : FieldType} (hd : decode Y.2.2.1 pc = .ok (.ireturn, 1)) (hr : Y.2.2.2.2.1 = some ty) (hn : narrow ty (.int v) = .int v) (hQ : Q (.inr (some (.int v))) w) : jx_G E l Y d Q pc L [.int v] w := by
  intro p e R s m args below meth c H locs cells slots ls C hH hL hq hc hs
  refine jx_mono ?_ (W.zret (Qc := fun _ _ o t => o = .returned (some (.int v)) ∧ t.heap = H) (free := fun x => E.1.heap.size ≤ x) C.ex C.code (C.ret.trans hr) hn (fun t ht _ => ⟨rfl, ht⟩) hq hd C.locks)
  rintro t ⟨o, t1, t2, ⟨rfl, t3⟩, L2, ⟨-, t5, t6⟩, t7⟩
  exact ⟨_, _, w, L2, cells, slots, t1, t2, hQ, rfl, by rw [t3]; exact hH, t5, t6, t7, hc, hs⟩
theorem jx_vret (hd : decode Y.2.2.1 pc = .ok (.return_, 1)) (hr : Y.2.2.2.2.1 = none) (hQ : Q (.inr none) w) : jx_G E l Y d Q pc L [] w := by
  intro p e R s m args below meth c H locs cells slots ls C hH hL hq hc hs
  refine jx_mono ?_ (W.vret (Qc := fun _ _ o t => o = .returned none ∧ t.heap = H) (free := fun x => E.1.heap.size ≤ x) C.ex C.code (C.ret.trans hr) (fun t ht _ => ⟨rfl, ht⟩) hq hd C.locks)
  rintro t ⟨o, t1, t2, ⟨rfl, t3⟩, L2, ⟨-, t5, t6⟩, t7⟩
  exact ⟨_, _, w, L2, cells, slots, t1, t2, hQ, rfl, by rw [t3]; exact hH, t5, t6, t7, hc, hs⟩
theorem jx_aret {a : Nat} {rt : FieldType} (hd : decode Y.2.2.1 pc = .ok (.areturn, 1)) (hr : Y.2.2.2.2.1 = some rt) (hrt : (∃ n, rt = .object n) ∨ ∃ t, rt = .array t) (hQ : Q (.inr (some (.ref a))) w) : jx_G E l Y d Q pc L [.ref a] w := by
  intro p e R s m args below meth c H locs cells slots ls C hH hL hq hc hs
  refine jx_mono ?_ (W.aret (v := .ref a) (Qc := fun _ _ o t => o = .returned (some (.ref a)) ∧ t.heap = H) (free := fun x => E.1.heap.size ≤ x) C.ex C.code (C.ret.trans hr) hrt (Or.inr ⟨a, rfl⟩) (fun t ht _ => ⟨rfl, ht⟩) hq hd C.locks)
  rintro t ⟨o, t1, t2, ⟨rfl, t3⟩, L2, ⟨-, t5, t6⟩, t7⟩
  exact ⟨_, _, w, L2, cells, slots, t1, t2, hQ, rfl, by rw [t3]; exact hH, t5, t6, t7, hc, hs⟩
end JXH
end
section
/-! 14.call: a call, with both its ends; a catch -/
theorem jx_cw_ok (z : MethodName) (Z : jx_Y) : ((jx_cw z Z).onTables && (jx_cw z Z).keepsH) = true := by
  unfold jx_cw
  split <;> rfl
theorem jx_cw_spec {z : MethodName} {Z : jx_Y} {args : Array Value} {s : State} {m : MethodId} (h : (jx_cw z Z).before args s = true) (hn : s.methodNamed? z = some m) :
    ∃ meth c, s.vm.method? m = some meth ∧ meth.code = some c ∧ c.code = Z.2.2.1 ∧ c.maxLocals = Z.2.2.2.1 ∧ meth.sig.returnType = Z.2.2.2.2.1 ∧ meth.locks = false ∧ c.exceptionTable.toList.map (fun h => (h.startPc, h.endPc, h.handlerPc, h.catchType)) = Z.2.2.2.2.2 ∧ parseMethodDescriptor z.desc = some meth.sig := by
  unfold jx_cw at h
  split at h
  · rename_i he
    obtain ⟨meth, c, h1, h2, h3, h4, h5, h6, h7, h8⟩ := Cond.code_spec hn h
    refine ⟨meth, c, h1, h2, h3, h4, h5, h6, ?_, h8⟩
    have e1 : Z.2.2.2.2.2 = [] := by simpa using he
    have e2 : c.exceptionTable = #[] := by simpa using h7
    rw [e1, e2]
    rfl
  · obtain ⟨m', meth, c, h0, h1, h2, h3, h4, h5, h6, h7, h8⟩ := Cond.codeWith_spec h
    cases hn.symm.trans h0
    exact ⟨meth, c, h1, h2, h3, h4, h6, h7, h5, h8⟩
def jx_room (d : Nat) (w : jx_W) : Room := { frames := d, cells := jx_c w, slots := jx_s w, locals := 80 * d }
def jx_Mq (E : jx_E) (Q : jx_R → jx_W → Prop) (w : jx_W) : Array Value → State → Outcome → State → Prop := fun _ s o t => ∃ (r : jx_R) (w' : jx_W) (L : List Loc) (k n : Nat), Q r w' ∧ jx_out E o r t.heap ∧ jx_H E w' t.heap ∧ s.WarmedH t.vm ∧ s.sameButNew ({ t with vm := s.vm } : State) L k n ∧ (∀ q ∈ L, E.1.heap.size ≤ q.base) ∧ k + jx_c w' ≤ jx_c w ∧ n + jx_s w' ≤ jx_s w
theorem jx_met {E : jx_E} {l : Launch} {z : MethodName} {Z : jx_Y} {n d : Nat} {Q : jx_R → jx_W → Prop} {w : jx_W} {As : List Value} (hM : jx_M E z Z n) (hOK : jx_OK E) (hlen : (jx_fl As).length ≤ Z.2.2.2.1) (hst : l.stackTraces = false) (hG : jx_G E l Z d Q 0 (jx_ent As Z.2.2.2.1) [] w) :
    MetFree l z (headSpec [jx_cw z Z] (jx_room d w)) (fun a s => a = As.toArray ∧ E.1.WarmedH s.vm ∧ jx_old E s.heap ∧ jx_H E w s.heap) (fun _ _ _ _ _ => True) (jx_Mq E Q w) := by
  obtain ⟨hp, hcl, hnm, -, -, -, -, -⟩ := hM
  refine MetFree.of_bodySF (code := Z.2.2.1) (maxLocals := Z.2.2.2.1) (ret := Z.2.2.2.2.1) hp ?_ ?_
  · intro args s m h hn
    obtain ⟨meth, c, h1, h2, h3, h4, h5, h6, -⟩ := jx_cw_spec (atoms_spec (ws := [jx_cw z Z]) h _ List.mem_cons_self) hn
    exact ⟨meth, c, h1, h2, h3, h4, h5, h6⟩
  · intro p e s m args below meth c s₁ B hml hP _
    obtain ⟨rfl, hW, hO, hH⟩ := hP
    have X₀ := Stand.of_body B
    obtain ⟨meth', c', h1, h2, h3, h4, h5, h6, h7, h8⟩ := jx_cw_spec (atoms_spec (ws := [jx_cw z Z]) B.pre _ List.mem_cons_self) B.named
    cases B.method.symm.trans h1
    cases X₀.code.symm.trans h2
    have htr : e.platform.stackTraces = false := (show e.platform.stackTraces = l.stackTraces by rw [X₀.admits.platform]).trans hst
    have C : jx_C E Z d p e (jx_room d w) s m meth c := ⟨B.exec, B.bytes, h4, B.returns, by rw [← hcl]; exact findClass_of_methodNamed B.named, B.notSynchronized, by rw [← hnm]; exact (name_of_methodNamed B.named B.method).1, h7, hW, hO, Nat.le_refl _, Nat.le_refl _, hOK, htr⟩
    have hh0 : s₁.heap = s.heap := by rw [B.state]; rfl
    have k := hG p e (jx_room d w) s m As.toArray below meth c s.heap [] 0 0 _ C hH (jx_entry As hlen) (fun q h => by cases h) (by show 0 + jx_c w ≤ jx_c w; omega) (by show 0 + jx_s w ≤ jx_s w; omega)
    rw [← lg_entry_eq] at k
    obtain ⟨t, a1, o, r, w', L', k', n', b1, b2, b3, b4⟩ := k s₁ hh0 X₀
    exact ⟨t, o, a1, b1, b2, r, w', L', k', n', b3, b4⟩
/-- the state behind a call, as the callee left it: the walk stands there again -/
theorem jx_there {p : Program} {l : Launch} {e : Env} {R : Room} {s : State} {m : MethodId} {args : Array Value} {below : List Frame} {meth : Method} {c : Code} {U s₂ : State} {locs L : List Loc} {cells slots k n : Nat} {g : JFrame} {mk : MethodId} {a : Array Value} (X : Stand p l e R s m args below meth c U locs cells slots)
    (hW : (U.calling g mk a).WarmedH s₂.vm) (hS : (U.calling g mk a).sameButNew ({ s₂ with vm := (U.calling g mk a).vm } : State) L k n) :
    Stand p l e R s m args below meth c (({ U with heap := s₂.heap, slotsUsed := s₂.slotsUsed } : State).setVm s₂.vm) (locs ++ L) (cells + k) (slots + n) ∧
      ∀ fs : List Frame, s₂.frames = fs → s₂ = (({ U with heap := s₂.heap, slotsUsed := s₂.slotsUsed } : State).setVm s₂.vm).setFrames fs := by
  obtain ⟨e2, q2, q3, q4, q5, q6⟩ := hS
  have hW' : U.WarmedH s₂.vm := hW
  have e3 : s₂ = ({ (U.calling g mk a).setFrames s₂.frames with heap := s₂.heap, slotsUsed := s₂.slotsUsed } : State).setVm s₂.vm := by
    have h1 : s₂ = ({ s₂ with vm := (U.calling g mk a).vm } : State).setVm s₂.vm := rfl
    rw [e2] at h1
    exact h1
  obtain ⟨g₀, hg0⟩ := Option.isSome_iff_exists.mp X.here.top
  obtain ⟨r, hr⟩ := State.topJava?_eq_some.mp hg0
  obtain ⟨t, ht, -⟩ := State.frames_cons hr
  have hsame : U.sameButNew ({ U with heap := s₂.heap, slotsUsed := s₂.slotsUsed } : State) L k n := by
    refine ⟨?_, q2, q3, q4, q5, q6⟩
    show ({ U with heap := s₂.heap, slotsUsed := s₂.slotsUsed } : State) = { U.setFrames U.frames with heap := s₂.heap, slotsUsed := s₂.slotsUsed }
    rw [State.setFrames_self ht]
  refine ⟨⟨X.admits, X.cas, X.clock, X.frames, X.room, X.hears, X.method, X.code, (X.here.setHeapUsed s₂.heap s₂.slotsUsed).setVm hW'.alike, X.tail, State.WarmedH.trans X.warmed hW', X.limits, X.bytes, X.same.trans (hsame.setVm s.vm)⟩, fun fs hfs => ?_⟩
  refine e3.trans ?_
  rw [hfs, State.calling_eq X.here.top, State.setFrames_setFrames]
  rfl
/-- a handler's row does not take the exception x at pc -/
def jx_pass (E : jx_E) (own : String) (pc x : Nat) (y : Nat × Nat × Nat × Nat) : Prop := ¬ (y.1 ≤ pc ∧ pc < y.2.1) ∨ (y.2.2.2 ≠ 0 ∧ ∃ (name : String) (cT cX : ClassId), (Jvm.Cond.classLink own y.2.2.2 name).before #[] E.1 = true ∧ E.1.vm.findClass name = some cT ∧ E.1.vm.findClass (jx_xn x) = some cX ∧ E.1.vm.assignable cX cT = false)
def jx_take (E : jx_E) (own : String) (pc x : Nat) (y : Nat × Nat × Nat × Nat) : Prop := (y.1 ≤ pc ∧ pc < y.2.1) ∧ y.2.2.2 ≠ 0 ∧ ∃ (name : String) (cT cX : ClassId), (Jvm.Cond.classLink own y.2.2.2 name).before #[] E.1 = true ∧ E.1.vm.findClass name = some cT ∧ E.1.vm.findClass (jx_xn x) = some cX ∧ E.1.vm.assignable cX cT = true
/-- what is owed where a callee has thrown x (the object a) at pc -/
def jx_T (E : jx_E) (l : Launch) (Y : jx_Y) (d : Nat) (Q : jx_R → jx_W → Prop) (pc : Nat) (L : List (Option Value)) (x a : Nat) (w : jx_W) : Prop :=
  ((∀ y ∈ Y.2.2.2.2.2, ¬ (y.1 ≤ pc ∧ pc < y.2.1)) ∧ Q (.inl (x, a)) w) ∨
  (∃ (pre : List (Nat × Nat × Nat × Nat)) (h : Nat × Nat × Nat × Nat) (rest : List (Nat × Nat × Nat × Nat)), Y.2.2.2.2.2 = pre ++ h :: rest ∧ (∀ y ∈ pre, jx_pass E Y.1 pc x y) ∧ jx_take E Y.1 pc x h ∧ jx_G E l Y d Q h.2.2.1 L [.ref a] w)
theorem jx_cov {y : ExceptionTableEntry} {pc : Nat} : covers y pc = true ↔ (y.startPc ≤ pc ∧ pc < y.endPc) := by
  simp [covers]
section JXK
variable {e : Env} {f : JFrame} {a : Addr}
/-- the search through the handlers, cold or warm -/
theorem jx_seek {E : jx_E} {s : State} {own : String} {x : Nat} {cell : Cell} (hE : E.1.WarmedH s.vm) (hown : s.vm.findClass own = some f.method.cls) (hpl : e.platform.magicAccessors = ({} : Platform).magicAccessors) (hobj : ∀ k, cell.vm ≠ .statics k) (hx : E.1.vm.findClass (jx_xn x) = some cell.cls) (y : ExceptionTableEntry) (rest : List ExceptionTableEntry) (hy : jx_take E own f.pc x (y.startPc, y.endPc, y.handlerPc, y.catchType)) :
    ∀ (pre : List ExceptionTableEntry) (S : State), s.WarmedH S.vm → S.heap[a]? = some cell → (∀ z ∈ pre, jx_pass E own f.pc x (z.startPc, z.endPc, z.handlerPc, z.catchType)) →
      ∃ vm', s.WarmedH vm' ∧ ∀ (Q : Handler → Pre) (X : CtlPost) (d : Bool) (acts : List Action), wp (findHandler.go f a (pre ++ y :: rest)) Q X e d acts S ↔ Q (.found y.handlerPc) d acts (S.setVm vm') := by
  have hEs := hE.alike
  have hxs : s.vm.findClass (jx_xn x) = some cell.cls := by rw [hEs.findClass]; exact hx
  obtain ⟨k0, hk0⟩ := Vm.classAt_of_findClass hxs
  have link : ∀ (S : State) (ct : Nat) (name : String) (cT : ClassId), s.WarmedH S.vm → (Jvm.Cond.classLink own ct name).before #[] E.1 = true → E.1.vm.findClass name = some cT →
      s.WarmedH (S.vm.noted f.method.cls ct (.cls cT)) ∧ S.vm.ClassLinks e.platform f.method.cls ct cT ∧ (∃ k, S.vm.classes[cT]? = some k) ∧ (∃ k, S.vm.classes[cell.cls]? = some k) := by
    intro S ct name cT hW hl hT
    obtain ⟨c', hc', hcl⟩ := Cond.classLink_spec hown (jx_mv (args := #[]) hE rfl hl) e.platform hpl
    have hTs : s.vm.findClass name = some cT := by rw [hEs.findClass]; exact hT
    cases hTs.symm.trans hc'
    obtain ⟨dk, _, _, kt, hd, _, _, _, _, hkt, _, hopen⟩ := hcl.here
    obtain ⟨kt', hkt', -⟩ := hW.alike.2.2 _ _ hkt
    obtain ⟨k0', hk0', -⟩ := hW.alike.2.2 _ _ hk0
    exact ⟨hW.noted hd hopen (State.rightAt_cls hcl), hW.classLinks hcl, ⟨kt', hkt'⟩, ⟨k0', hk0'⟩⟩
  intro pre
  induction pre with
  | nil =>
    intro S hW hcell _
    obtain ⟨hcv, h0, name, cT, cX, hl, hT, hX, hfit⟩ := hy
    cases hX.symm.trans hx
    obtain ⟨w1, w2, ⟨k2, hk2⟩, ⟨k1, hk1⟩⟩ := link S _ name cT hW hl hT
    refine ⟨_, w1, fun Q X d acts => ?_⟩
    have hcov : covers y f.pc = true := jx_cov.mpr hcv
    obtain ⟨ha, ht⟩ := (resolveClass_links e.toSetting w2).op (op := VmOp.resolveClass f.method.cls y.catchType) rfl
    have hal : S.vm.Alike (S.vm.noted f.method.cls y.catchType (.cls cT)) := (Vm.Alike.refl S.vm).noted _ _ _
    obtain ⟨k1', hk1', -⟩ := hal.2.2 _ _ hk1
    obtain ⟨k2', hk2', -⟩ := hal.2.2 _ _ hk2
    have hfit' : (S.vm.noted f.method.cls y.catchType (.cls cT)).assignable cell.cls cT = true := by rw [hal.assignable, hW.alike.assignable, hEs.assignable]; exact hfit
    have h0' : y.catchType ≠ 0 := h0
    simp only [covers] at hcov
    simp [findHandler.go, hcov, h0', ha, ht, hcell, hobj, hk1', hk2', hfit', VmOp.dirties, VmOp.acts]
  | cons z zs ih =>
    intro S hW hcell hpass
    have hrest : ∀ u ∈ zs, jx_pass E own f.pc x (u.startPc, u.endPc, u.handlerPc, u.catchType) := fun u hu => hpass u (List.mem_cons_of_mem _ hu)
    by_cases hcov : covers z f.pc = true
    · rcases hpass z (List.mem_cons_self ..) with h | ⟨h0, name, cT, cX, hl, hT, hX, hno⟩
      · exact absurd (jx_cov.mp hcov) h
      · cases hX.symm.trans hx
        obtain ⟨w1, w2, ⟨k2, hk2⟩, ⟨k1, hk1⟩⟩ := link S _ name cT hW hl hT
        obtain ⟨vm', hW', hq⟩ := ih (S.setVm (S.vm.noted f.method.cls z.catchType (.cls cT))) w1 hcell hrest
        refine ⟨vm', hW', fun Q X d acts => ?_⟩
        obtain ⟨ha, ht⟩ := (resolveClass_links e.toSetting w2).op (op := VmOp.resolveClass f.method.cls z.catchType) rfl
        have hal : S.vm.Alike (S.vm.noted f.method.cls z.catchType (.cls cT)) := (Vm.Alike.refl S.vm).noted _ _ _
        obtain ⟨k1', hk1', -⟩ := hal.2.2 _ _ hk1
        obtain ⟨k2', hk2', -⟩ := hal.2.2 _ _ hk2
        have hno' : (S.vm.noted f.method.cls z.catchType (.cls cT)).assignable cell.cls cT = false := by rw [hal.assignable, hW.alike.assignable, hEs.assignable]; exact hno
        have h0' : z.catchType ≠ 0 := h0
        have key : wp (findHandler.go f a (z :: (zs ++ y :: rest))) Q X e d acts S ↔ wp (findHandler.go f a (zs ++ y :: rest)) Q X e d acts (S.setVm (S.vm.noted f.method.cls z.catchType (.cls cT))) := by
          simp only [covers] at hcov
          simp [findHandler.go, hcov, h0', ha, ht, hcell, hobj, hk1', hk2', hno', VmOp.dirties, VmOp.acts]
        rw [List.cons_append, key]
        exact hq Q X d acts
    · obtain ⟨vm', hW', hq⟩ := ih S hW hcell hrest
      exact ⟨vm', hW', fun Q X d acts => by
        rw [List.cons_append, W.findHandler_go_skip (by simpa using hcov)]
        exact hq Q X d acts⟩
end JXK
/-- the exception is taken by a handler of the walked method -/
theorem jx_caught {E : jx_E} {p : Program} {l : Launch} {e : Env} {R : Room} {s : State} {m : MethodId} {args : Array Value} {below : List Frame} {meth : Method} {c : Code} {T : State} {locs : List Loc} {cells slots : Nat} (X : Stand p l e R s m args below meth c T locs cells slots) {g : JFrame} (hg : g.method = m) {own : String} {x a : Nat} {cell : Cell} (hE : E.1.WarmedH s.vm) (hown : s.vm.findClass own = some m.cls) (hcell : T.heap[a]? = some cell) (hobj : cell.vm.isStatics = false) (hx : E.1.vm.findClass (jx_xn x) = some cell.cls)
    {pre rest : List (Nat × Nat × Nat × Nat)} {h : Nat × Nat × Nat × Nat} (htab : c.exceptionTable.toList.map (fun h => (h.startPc, h.endPc, h.handlerPc, h.catchType)) = pre ++ h :: rest) (hpass : ∀ y ∈ pre, jx_pass E own g.pc x y) (htake : jx_take E own g.pc x h) :
    ∃ vm', Stand p l e R s m args below meth c (T.setVm vm') locs cells slots ∧ ∀ target, Steps p.tables e below ((T.setVm vm').setTop { g with pc := h.2.2.1, stack := [.ref a] }) target → Steps p.tables e below ((T.setTop g).pushFrame (.throwing a)) target := by
  subst hg
  have hpl : e.platform.magicAccessors = ({} : Platform).magicAccessors := by rw [X.admits.platform]
  obtain ⟨pre', tl, e1, e2, e3⟩ := List.map_eq_append_iff.mp htab
  obtain ⟨y, rest', e4, e5, e6⟩ := List.map_eq_cons_iff.mp e3
  subst e4
  have hpass' : ∀ z ∈ pre', jx_pass E own g.pc x (z.startPc, z.endPc, z.handlerPc, z.catchType) := fun z hz => hpass _ (by rw [← e2]; exact List.mem_map.mpr ⟨z, hz, rfl⟩)
  have htake' : jx_take E own g.pc x (y.startPc, y.endPc, y.handlerPc, y.catchType) := by rw [e5]; exact htake
  obtain ⟨vm', hW', hf⟩ := jx_seek (e := e) (f := g) (a := a) hE hown hpl (VmData.ne_statics_of hobj) hx y rest' htake' pre' ((T.setTop g).pushFrame (.throwing a)) (by rw [Stand.throwing_vm]; exact X.warmed) (by rw [Stand.throwing_heap]; exact hcell) hpass'
  refine ⟨vm', X.noted hW', fun target hrest => ?_⟩
  have hpc : h.2.2.1 = y.handlerPc := by rw [← e5]
  rw [hpc] at hrest
  obtain ⟨hgo, hw⟩ := X.here.throwing a
  refine Steps.head hgo hw ?_
  have hfind : ∀ (Q : Handler → Pre) (Z : CtlPost) (d : Bool) (acts : List Action), wp (findHandler g a) Q Z e d acts ((T.setTop g).pushFrame (.throwing a)) ↔ Q (.found y.handlerPc) d acts (((T.setTop g).pushFrame (.throwing a)).setVm vm') := by
    intro Q Z d acts
    rw [W.findHandler_eq (meth := meth) (code := c) (by rw [Stand.throwing_vm]; exact X.method') X.code, e1]
    exact hf Q Z d acts
  have hstep : (stepThrowing e ((T.setTop g).pushFrame (.throwing a)) a (.java g :: T.frames.tail)).1 = (((T.setTop g).pushFrame (.throwing a)).setVm vm').setFrames (.java { g with pc := y.handlerPc, stack := [.ref a] } :: T.frames.tail) := by
    simp only [stepThrowing, searchFrame, vmDo]
    generalize hr : Sem.go _ e false [] ((T.setTop g).pushFrame (.throwing a)) = res
    obtain ⟨as, rfl, ha⟩ := Sem.eq_ok_of hr (a := Handler.found y.handlerPc) (s' := ((T.setTop g).pushFrame (.throwing a)).setVm vm') (acts' := []) (by simp [hfind _ _ _ _])
    rfl
  rw [stepThread_throwing (frames_entered X.here.top _), hstep]
  obtain ⟨g₀, hg0⟩ := Option.isSome_iff_exists.mp X.here.top
  obtain ⟨r, hr⟩ := State.topJava?_eq_some.mp hg0
  have hr' : (T.setVm vm').frames = .java g₀ :: r := hr
  rw [State.setTop_of_frames _ hr'] at hrest
  have e7 : (((T.setTop g).pushFrame (.throwing a)).setVm vm').setFrames (.java { g with pc := y.handlerPc, stack := [.ref a] } :: T.frames.tail) = (T.setVm vm').setFrames (.java { g with pc := y.handlerPc, stack := [.ref a] } :: T.frames.tail) := by
    rw [State.pushFrame, State.setTop_of_frames _ hr, State.setFrames_setFrames]
    have h1 : ∀ (u : State) (F : List Frame), (u.setFrames F).setVm vm' = (u.setVm vm').setFrames F := fun u F => rfl
    rw [h1, State.setFrames_setFrames]
  rw [e7, hr, List.tail_cons]
  exact hrest
end
section
/-! 16.calls: the six kinds of a call; the throw -/
section JXF
variable {E : jx_E} {l : Launch} {Y Z : jx_Y} {d n : Nat} {Q Qz : jx_R → jx_W → Prop} {pc : Nat} {L : List (Option Value)} {rest As : List Value} {w : jx_W} {z : MethodName}
theorem jx_fin {p : Program} {e : Env} {R : Room} {s : State} {m : MethodId} {args : Array Value} {below : List Frame} {meth : Method} {c : Code} {H : Heap} {locs : List Loc} {cells slots : Nat} {ls : Array Slot} {U : State} {mk : MethodId} {ig : Instr}
    (C : jx_C E Y (d + 1) p e R s m meth c) (hM : jx_M E z Z n) (hlen : (jx_fl As).length ≤ Z.2.2.2.1) (hz : jx_G E l Z d Qz 0 (jx_ent As Z.2.2.2.1) [] w)
    (kr : ∀ v w', Qz (.inr v) w' → jx_G E l Y (d + 1) Q (pc + 3) L (v.toList ++ rest) w') (kt : ∀ x a w', Qz (.inl (x, a)) w' → jx_T E l Y (d + 1) Q pc L x a w')
    (X : Stand p l e R s m args below meth c U locs cells slots) (hU : U.heap = H) (hH : jx_H E w H) (hL : jx_L ls Y.2.2.2.1 L) (hq : ∀ q ∈ locs, E.1.heap.size ≤ q.base) (hc : cells + jx_c w ≤ R.cells) (hs : slots + jx_s w ≤ R.slots) (hdg : decode c.code pc = .ok (ig, 3)) (hW : (rest.map fun v => v.category).sum ≤ 24) (hn : U.methodNamed? z = some mk) :
    ∃ t, Steps p.tables e below (doInvoke e (U.setTop (F0 m pc ls rest)) [] mk As.toArray).1 t ∧ jx_P E R s below Q t := by
  subst hU
  have hst : l.stackTraces = false := (show e.platform.stackTraces = l.stackTraces by rw [X.admits.platform]).symm.trans C.st
  have hMet := jx_met hM C.ok hlen hst hz
  obtain ⟨hpn, hcl, hnm, hcw, hini, hnl, hmh, hpar⟩ := hM
  have hWU : E.1.WarmedH U.vm := State.WarmedH.trans C.warm X.warmed
  have hcwU : (jx_cw z Z).before As.toArray U = true := jx_mv hWU (jx_cw_ok z Z) hcw
  obtain ⟨methY, cY, hmY, hcY, -, hlY, -, -, -, -⟩ := jx_cw_spec hcwU hn
  obtain ⟨kY, hkY, -⟩ := className_of_methodNamed hn
  have hinitY : kY.init = .initialized := Cond.initialized_spec (findClass_of_methodNamed hn) hkY (jx_mv (args := As.toArray) hWU rfl hini)
  have h : At U (F0 m pc ls rest).method c below := X.here
  have hfr1 := C.fr
  have hlo1 := C.lo
  have hroom : (U.calling (F0 m pc ls rest) mk As.toArray).hasRoom e.platform (jx_room d w) = true :=
    X.room_calling (g := F0 m pc ls rest) (R' := jx_room d w) (by show ls.size = _; rw [hL.1, C.nL]) hmY hcY (by show d + 1 ≤ _; omega) (by rw [hlY]; show 2 * 0 + (rest.map fun v => v.category).sum + (Z.2.2.2.1 + 11) + 80 * d ≤ _; omega) hc hs
  have happ : (headSpec [jx_cw z Z] (jx_room d w)).appliesLoose z e.platform (U.calling (F0 m pc ls rest) mk As.toArray) = true :=
    Spec.appliesLoose_calling (g := F0 m pc ls rest) h hdg hn hkY hinitY hroom (atoms_intro (ws := [jx_cw z Z]) (fun q hq => by rw [List.mem_singleton] at hq; subst hq; exact hcwU))
  obtain ⟨mid, hmid⟩ := h.above
  have hfr : (U.setTop (F0 m pc ls rest)).frames = (.java (F0 m pc ls rest) :: mid) ++ below := by rw [State.frames_setTop' _ h.top, hmid]; rfl
  obtain ⟨o, s₂, hsteps, hrun, hend, hq'⟩ := Steps.callFree hMet p X.admits X.cas X.clock (acts := []) hfr happ ⟨rfl, hWU, hH.2.1, hH⟩ trivial
  rw [State.frames_setTop' _ h.top] at hend
  obtain ⟨r, w', L', k', n', hQ, hout, hH', hWm, hsame, hfree, hk', hn'⟩ := hq'
  obtain ⟨X', hfs⟩ := jx_there X hWm hsame
  have hlocs : ∀ q ∈ locs ++ L', E.1.heap.size ≤ q.base := by
    intro q hm
    rcases List.mem_append.mp hm with h1 | h1
    · exact hq q h1
    · exact hfree q h1
  have hcc : cells + k' + jx_c w' ≤ R.cells := by omega
  have hss : slots + n' + jx_s w' ≤ R.slots := by omega
  obtain ⟨g₀, hg0⟩ := Option.isSome_iff_exists.mp X.here.top
  obtain ⟨r0, hr⟩ := State.topJava?_eq_some.mp hg0
  have hr' : (({ U with heap := s₂.heap, slotsUsed := s₂.slotsUsed } : State).setVm s₂.vm).frames = .java g₀ :: r0 := hr
  cases r with
  | inr v =>
    have ho : o = .returned v := hout
    subst ho
    obtain ⟨c₂, i₂, len₂, hc₂, hd₂, hf₂⟩ := hend
    have hce : c₂ = c := by
      have h1 : s₂.code? m = U.code? m := by
        have hWq : U.WarmedH s₂.vm := hWm
        rw [State.code?_eq, State.code?_eq, hWq.alike.method?]
      exact Option.some.inj (hc₂.symm.trans (h1.trans h.code))
    subst hce
    have hl3 : len₂ = 3 := by rw [hdg] at hd₂; cases hd₂; rfl
    subst hl3
    have ht : s₂ = (({ U with heap := s₂.heap, slotsUsed := s₂.slotsUsed } : State).setVm s₂.vm).setTop (F0 m (pc + 3) ls (v.toList ++ rest)) := by
      rw [State.setTop_of_frames _ hr']
      refine (hfs _ hf₂).trans ?_
      rw [hr]
      rfl
    obtain ⟨t, a1, b1⟩ := kr v w' hQ p e R s m args below meth _ s₂.heap (locs ++ L') (cells + k') (slots + n') ls C hH' hL hlocs hcc hss (({ U with heap := s₂.heap, slotsUsed := s₂.slotsUsed } : State).setVm s₂.vm) rfl X'
    rw [← ht] at a1
    exact ⟨t, hsteps.trans a1, b1⟩
  | inl xa =>
    obtain ⟨x, a⟩ := xa
    obtain ⟨ho, hage, cell, hcell, hobj, hxc⟩ := hout
    subst ho
    have hf₂ : s₂.frames = .throwing a :: .java (F0 m pc ls rest) :: U.frames.tail := hend
    have ht : s₂ = ((({ U with heap := s₂.heap, slotsUsed := s₂.slotsUsed } : State).setVm s₂.vm).setTop (F0 m pc ls rest)).pushFrame (.throwing a) := by
      rw [State.pushFrame, State.frames_setTop _ hr', State.setTop_of_frames _ hr', State.setFrames_setFrames]
      refine (hfs _ hf₂).trans ?_
      rw [hr]
      rfl
    rcases kt x a w' hQ with ⟨hnone, hQ2⟩ | ⟨pre, hh, tl, e1, e2, e3, kg⟩
    · obtain ⟨st, f1, f2, f3, f4⟩ := X'.leaveThrown a (g := F0 m pc ls rest) rfl rfl rfl (fun y hy => by
        cases hcv : covers y pc with
        | false => rfl
        | true => exact absurd (jx_cov.mp hcv) (hnone _ (by rw [← C.tab]; exact List.mem_map.mpr ⟨y, hy, rfl⟩))) C.locks
      rw [← ht] at st
      exact ⟨_, hsteps.trans st, .threw a, .inl (x, a), w', locs ++ L', cells + k', slots + n', f1, f2, hQ2, ⟨rfl, hage, cell, hcell, hobj, hxc⟩, hH', f3, f4, hlocs, hcc, hss⟩
    · obtain ⟨vm', X'', st⟩ := jx_caught X' (g := F0 m pc ls rest) rfl C.warm C.own hcell hobj hxc (C.tab.trans e1) e2 e3
      obtain ⟨t, a1, b1⟩ := kg p e R s m args below meth c s₂.heap (locs ++ L') (cells + k') (slots + n') ls C hH' hL hlocs hcc hss ((({ U with heap := s₂.heap, slotsUsed := s₂.slotsUsed } : State).setVm s₂.vm).setVm vm') rfl X''
      have a2 := st t a1
      rw [← ht] at a2
      exact ⟨t, hsteps.trans a2, b1⟩
theorem jx_callV {idx b ci : Nat} {q : vw_C} (hd : decode Y.2.2.1 pc = .ok (.invokevirtual idx, 3)) (hM : jx_M E z Z n) (hV : jx_V E Y.1 idx z q.1) (hci : ci < 99) (hq0 : E.2.2[ci]? = some q) (hk : jx_k w b = ci + 1) (hn : As.length = n) (hlen : (jx_fl (.ref b :: As)).length ≤ Z.2.2.2.1) (hW : (rest.map fun v => v.category).sum ≤ 24)
    (hz : jx_G E l Z d Qz 0 (jx_ent (.ref b :: As) Z.2.2.2.1) [] w) (kr : ∀ v w', Qz (.inr v) w' → jx_G E l Y (d + 1) Q (pc + 3) L (v.toList ++ rest) w') (kt : ∀ x a w', Qz (.inl (x, a)) w' → jx_T E l Y (d + 1) Q pc L x a w') : jx_G E l Y (d + 1) Q pc L (As.reverse ++ .ref b :: rest) w := by
  intro p e R s m args below meth c H locs cells slots ls C hH hL hq hc hs T hT X
  obtain ⟨hlink, hinst, hsel⟩ := hV
  obtain ⟨cell, hcell, hpic⟩ := hH.2.2 b (by rw [hk]; omega)
  rw [hk] at hpic
  obtain ⟨hvm, hcls, -⟩ := jx_pic_obj hci hq0 hpic
  have hfcE := (C.ok ci q hq0).1.2.1
  have hfc : s.vm.findClass q.1 = some cell.cls := by rw [hcls, C.warm.alike.findClass]; exact hfcE
  obtain ⟨mk, methM, hnamed, hmethM, hstM, habM⟩ := Cond.instanceMethod_spec (jx_mv (args := args) C.warm rfl hinst)
  obtain ⟨methM', cM, hmethM', -, -, -, -, -, -, hsigM⟩ := jx_cw_spec (jx_mv (args := args) C.warm (jx_cw_ok z Z) hM.2.2.2.1) hnamed
  cases hmethM.symm.trans hmethM'
  have hy := hM.2.2.2.2.2.2.1
  obtain ⟨c2, r2, m2, q1, q2, q3, q4, kP, hkP, hkPi⟩ := Cond.selects_spec (jx_mv (args := args) C.warm rfl hsel)
  cases hfc.symm.trans q1
  cases (State.methodFound?_of_named hnamed hy).symm.trans q2
  cases hnamed.symm.trans q3
  have hselP : selectMethod e.platform s.vm cell.cls mk = .method mk := by rw [Launch.admits_selectMethod X.admits]; exact q4
  have hln : As.length = methM.sig.parameters.length := by
    have h2 := hM.2.2.2.2.2.2.2
    rw [hsigM] at h2
    rw [hn]
    exact (Option.some.inj h2).symm
  have first : ∃ vm₁, Stand p l e R s m args below meth c (T.setVm vm₁) locs cells slots ∧ ∀ target, (∀ acts, Steps p.tables e below (doInvoke e ((T.setVm vm₁).setTop (F0 m pc ls rest)) acts mk (.ref b :: As).toArray).1 target) → Steps p.tables e below (T.setTop (F0 m pc ls (As.reverse ++ .ref b :: rest))) target := by
    rcases hlink with h | ⟨host, h⟩
    · exact X.invokevirtual C.ex C.own (jx_mv C.warm rfl h) hnamed hmethM hstM hkP hkPi hy (a := b) (cell := cell) (by rw [hT]; exact hcell) (fun k0 h0 => by rw [hvm] at h0; cases h0) hselP hmethM habM hkP hkPi (g := F0 m pc ls (As.reverse ++ .ref b :: rest)) rfl (argsL := As) (rest := rest) hln rfl (by rw [C.code]; exact hd)
    · exact X.invokevirtualNest C.ex C.own (jx_mv C.warm rfl h) hnamed hmethM hstM hkP hkPi hy (a := b) (cell := cell) (by rw [hT]; exact hcell) (fun k0 h0 => by rw [hvm] at h0; cases h0) hselP hmethM habM hkP hkPi (g := F0 m pc ls (As.reverse ++ .ref b :: rest)) rfl (argsL := As) (rest := rest) hln rfl (by rw [C.code]; exact hd)
  obtain ⟨vm₁, X₁, st⟩ := first
  obtain ⟨t, a1, b1⟩ := jx_fin (H := H) (U := T.setVm vm₁) (mk := mk) C hM hlen hz kr kt X₁ hT hH hL hq hc hs (by rw [C.code]; exact hd) hW (X₁.named hnamed)
  exact ⟨t, st t (fun acts => by rw [doInvoke_state]; exact a1), b1⟩
theorem jx_callS {idx : Nat} (hd : decode Y.2.2.1 pc = .ok (.invokestatic idx, 3)) (hM : jx_M E z Z n) (hV : jx_S E Y.1 idx z) (hn : As.length = n) (hlen : (jx_fl As).length ≤ Z.2.2.2.1) (hW : (rest.map fun v => v.category).sum ≤ 24)
    (hz : jx_G E l Z d Qz 0 (jx_ent As Z.2.2.2.1) [] w) (kr : ∀ v w', Qz (.inr v) w' → jx_G E l Y (d + 1) Q (pc + 3) L (v.toList ++ rest) w') (kt : ∀ x a w', Qz (.inl (x, a)) w' → jx_T E l Y (d + 1) Q pc L x a w') : jx_G E l Y (d + 1) Q pc L (As.reverse ++ rest) w := by
  intro p e R s m args below meth c H locs cells slots ls C hH hL hq hc hs T hT X
  obtain ⟨hlink, hstat⟩ := hV
  have hstat' := jx_mv (args := args) C.warm rfl hstat
  have hcw' := jx_mv (args := args) C.warm (jx_cw_ok z Z) hM.2.2.2.1
  obtain ⟨mk, hnamed⟩ : ∃ mk, s.methodNamed? z = some mk := by
    cases hm : s.methodNamed? z with
    | some mk => exact ⟨mk, rfl⟩
    | none => simp [Cond.before, Cond.holds, Cond.value, hm] at hstat'
  obtain ⟨methM, cM, hmethM, -, -, -, -, -, -, hsigM⟩ := jx_cw_spec hcw' hnamed
  have hy := hM.2.2.2.2.2.2.1
  have hstatic : methM.isStatic = true := Cond.static_spec hnamed hmethM hstat'
  obtain ⟨kP, hkP, -⟩ := className_of_methodNamed hnamed
  have hinitP : kP.init = .initialized := Cond.initialized_spec (findClass_of_methodNamed hnamed) hkP (jx_mv (args := args) C.warm rfl hM.2.2.2.2.1)
  have hln : As.length = methM.sig.parameters.length := by
    have h2 := hM.2.2.2.2.2.2.2
    rw [hsigM] at h2
    rw [hn]
    exact (Option.some.inj h2).symm
  have first : ∃ vm₁, Stand p l e R s m args below meth c (T.setVm vm₁) locs cells slots ∧ ∀ target, (∀ acts, Steps p.tables e below (doInvoke e ((T.setVm vm₁).setTop (F0 m pc ls rest)) acts mk As.toArray).1 target) → Steps p.tables e below (T.setTop (F0 m pc ls (As.reverse ++ rest))) target := by
    rcases hlink with h | ⟨host, h⟩
    · exact X.invokestatic C.ex C.own (jx_mv C.warm rfl h) hnamed hmethM hstatic hkP hinitP hy (g := F0 m pc ls (As.reverse ++ rest)) rfl (argsL := As) (rest := rest) hln rfl (by rw [C.code]; exact hd)
    · exact X.invokestaticNest C.ex C.own (jx_mv C.warm rfl h) hnamed hmethM hstatic hkP hinitP hy (g := F0 m pc ls (As.reverse ++ rest)) rfl (argsL := As) (rest := rest) hln rfl (by rw [C.code]; exact hd)
  obtain ⟨vm₁, X₁, st⟩ := first
  obtain ⟨t, a1, b1⟩ := jx_fin (H := H) (U := T.setVm vm₁) (mk := mk) C hM hlen hz kr kt X₁ hT hH hL hq hc hs (by rw [C.code]; exact hd) hW (X₁.named hnamed)
  exact ⟨t, st t (fun acts => by rw [doInvoke_state]; exact a1), b1⟩
/-- a constructor without handlers -/
theorem jx_callI {idx b : Nat} (hd : decode Y.2.2.1 pc = .ok (.invokespecial idx, 3)) (hM : jx_M E z Z n) (hV : jx_I E Y.1 idx z) (hi : z.name = "<init>") (hnone : Z.2.2.2.2 = (none, [])) (hn : As.length = n) (hlen : (jx_fl (.ref b :: As)).length ≤ Z.2.2.2.1) (hW : (rest.map fun v => v.category).sum ≤ 24)
    (hz : jx_G E l Z d Qz 0 (jx_ent (.ref b :: As) Z.2.2.2.1) [] w) (kr : ∀ v w', Qz (.inr v) w' → jx_G E l Y (d + 1) Q (pc + 3) L (v.toList ++ rest) w') (kt : ∀ x a w', Qz (.inl (x, a)) w' → jx_T E l Y (d + 1) Q pc L x a w') : jx_G E l Y (d + 1) Q pc L (As.reverse ++ .ref b :: rest) w := by
  intro p e R s m args below meth c H locs cells slots ls C hH hL hq hc hs T hT X
  obtain ⟨hlink, hinst⟩ := hV
  have hpl : e.platform.magicAccessors = ({} : Platform).magicAccessors := by rw [X.admits.platform]
  have hcode : (Jvm.Cond.code z Z.2.2.1 Z.2.2.2.1 none).before args s = true := by
    have h1 := jx_mv (args := args) C.warm (jx_cw_ok z Z) hM.2.2.2.1
    unfold jx_cw at h1
    rw [hnone] at h1
    exact h1
  have hy := hM.2.2.2.2.2.2.1
  have hln : ∀ sig, parseMethodDescriptor z.desc = some sig → As.length = sig.parameters.length := by
    intro sig hsig
    have h2 := hM.2.2.2.2.2.2.2
    rw [hsig] at h2
    rw [hn]
    exact (Option.some.inj h2).symm
  have first : ∃ (mk : MethodId) (vm₁ : Vm), s.methodNamed? z = some mk ∧ s.WarmedH vm₁ ∧ ∀ target, (∀ acts, Steps p.tables e below (doInvoke e ((T.setVm vm₁).setTop (F0 m pc ls rest)) acts mk (.ref b :: As).toArray).1 target) → Steps p.tables e below (T.setTop (F0 m pc ls (As.reverse ++ .ref b :: rest))) target := by
    rcases hlink with h | ⟨host, h⟩
    · obtain ⟨mk, _, _, _, vm₁, h1, -, -, -, -, -, -, -, h2, h3⟩ := Steps.initColdArgs (tb := p.tables) (e := e) X.here C.ex X.warmed hpl C.own hi hy (jx_mv C.warm rfl h) (jx_mv (args := args) C.warm rfl hinst) hcode (f := F0 m pc ls (As.reverse ++ .ref b :: rest)) rfl (a := b) (argsL := As) (rest := rest) hln rfl (by rw [C.code]; exact hd)
      exact ⟨mk, vm₁, h1, h2, h3⟩
    · obtain ⟨mk, _, _, _, vm₁, h1, -, -, -, -, -, -, -, h2, h3⟩ := Steps.initColdArgsNest (tb := p.tables) (e := e) X.here C.ex X.warmed hpl C.own hi hy (jx_mv C.warm rfl h) (jx_mv (args := args) C.warm rfl hinst) hcode (f := F0 m pc ls (As.reverse ++ .ref b :: rest)) rfl (a := b) (argsL := As) (rest := rest) hln rfl (by rw [C.code]; exact hd)
      exact ⟨mk, vm₁, h1, h2, h3⟩
  obtain ⟨mk, vm₁, hnamed, hW₁, st⟩ := first
  have X₁ := X.noted hW₁
  obtain ⟨t, a1, b1⟩ := jx_fin (H := H) (U := T.setVm vm₁) (mk := mk) C hM hlen hz kr kt X₁ hT hH hL hq hc hs (by rw [C.code]; exact hd) hW (X₁.named hnamed)
  exact ⟨t, st t (fun acts => by rw [doInvoke_state]; exact a1), b1⟩
theorem jx_objInit {idx b : Nat} (hd : decode Y.2.2.1 pc = .ok (.invokespecial idx, 3)) (h1 : (Jvm.Cond.methodLink Y.1 idx Lib.objectInit).before #[] E.1 = true) (h2 : (Jvm.Cond.instanceMethod Lib.objectInit).before #[] E.1 = true) (h3 : (Jvm.Cond.code Lib.objectInit ⟨#[0xb1]⟩ 1 none).before #[] E.1 = true) (hW : (rest.map fun v => v.category).sum ≤ 24) (k : jx_G E l Y (d + 1) Q (pc + 3) L rest w) : jx_G E l Y (d + 1) Q pc L (.ref b :: rest) w := by
  intro p e R s m args below meth c H locs cells slots ls C hH hL hq hc hs
  have hfr1 := C.fr
  have hlo1 := C.lo
  exact W.objInit C.ex C.code C.own (jx_mv C.warm rfl h1) (jx_mv C.warm rfl h2) (jx_mv C.warm rfl h3) rfl (by show ls.size = _; rw [hL.1, C.nL]) rfl hd (by omega) (by show 2 * 0 + _ + 12 ≤ _; omega) (k p e R s m args below meth c H locs cells slots ls C hH hL hq hc hs)
end JXF
end
section
/-! 18.throw: 'throw new E("text")' in a method that does not catch it -/
theorem jx_mvx {E : jx_E} {s : State} {q : Jvm.Cond} {args : Array Value} (hW : E.1.WarmedH s.vm) (hc : jx_good q = true) (h : q.before #[] E.1 = true) : q.before args s = true := by
  unfold jx_good at hc
  simp only [Bool.and_eq_true, Bool.or_eq_true] at hc
  obtain ⟨h1, h2 | h2⟩ := hc
  · exact jx_mv hW (by simp [h1, h2]) h
  · cases q <;> first | (simp at h2; done) | exact va_Nw.use rfl (va_Nw.warmC hW h) | exact va_Nw.use rfl (va_Nw.warmD hW h)
set_option maxHeartbeats 1000000 in
theorem jx_throw {E : jx_E} {l : Launch} {Y : jx_Y} {d : Nat} {Q : jx_R → jx_W → Prop} {pc : Nat} {L : List (Option Value)} {rest : List Value} {w : jx_W} {ik is ic x : Nat} {names : List String}
    (d0 : decode Y.2.2.1 pc = .ok (.new ik, 3)) (d3 : decode Y.2.2.1 (pc + 3) = .ok (.dup, 1)) (d4 : decode Y.2.2.1 (pc + 4) = .ok (.ldc is, 2)) (d6 : decode Y.2.2.1 (pc + 6) = .ok (.invokespecial ic, 3)) (d9 : decode Y.2.2.1 (pc + 9) = .ok (.athrow, 1))
    (hX : jx_X E Y.1 ik is ic x names) (hout : ∀ y ∈ Y.2.2.2.2.2, ¬ (y.1 ≤ pc + 9 ∧ pc + 9 < y.2.1)) (h1 : 1 ≤ jx_c w) (h6 : 6 ≤ jx_s w) (hd : names.length + 4 ≤ d) (hr : (rest.map fun v => v.category).sum ≤ 24)
    (hQ : Q (.inl (x, jx_n w)) (jx_skip w 6)) : jx_G E l Y d Q pc L rest w := by
  intro p e R s m args below meth c H locs cells slots ls C hH hL hq hc hs T hT X
  have htr := C.st
  have hfr := C.fr
  have hlo := C.lo
  have hb := C.code
  obtain ⟨hcls, hnames, hk, hini, ⟨text, sa, hstr⟩, hat, hU, hN⟩ := hX
  have Yx := vx_rebase X (R' := { frames := R.frames, locals := R.locals, cells := 1, slots := 6 }) (Nat.le_refl _) (Nat.le_refl _) (by show cells + 1 ≤ _; omega) (by show slots + 6 ≤ _; omega)
  obtain ⟨s', hA⟩ : ∃ z, z = (T.setVm s.vm).setFrames (.invoking m args :: below) := ⟨_, rfl⟩
  rw [← hA] at Yx
  have hvm : s'.vm = s.vm := by rw [hA]; rfl
  have hhp : s'.heap = H := by rw [hA]; exact hT
  have hWE : E.1.WarmedH s'.vm := by rw [hvm]; exact C.warm
  have hW0 : s.WarmedH s'.vm := by rw [hvm]; exact State.WarmedH.refl s
  have hat' : ∀ w ∈ vx_atS Y.1 ic (jx_xn x) names, w.before args s' = true := fun w hw => jx_mvx hWE (hat w hw).1 (hat w hw).2
  have hk' : (Jvm.Cond.classLink Y.1 ik (jx_xn x)).before args s' = true := jx_mv hWE rfl hk
  have hini' : (Jvm.Cond.initialized (jx_xn x)).before args s' = true := jx_mv hWE rfl hini
  have hold : ∀ a : Nat, a < E.1.heap.size → ¬ (fun q : Nat => E.1.heap.size ≤ q) a → H[a]? = E.1.heap[a]? := fun a ha _ => hH.2.1.2 a ha
  have hU' : vx_Zq Bundle.tN "UNASSIGNED_STACK" Bundle.steD (fun q => E.1.heap.size ≤ q) s' s'.heap := by rw [hhp]; exact vx_Zq.moved hWE.alike (hU.kept hold)
  have hN' : vx_Zq Bundle.tN "SUPPRESSED_SENTINEL" Bundle.listD (fun q => E.1.heap.size ≤ q) s' s'.heap := by rw [hhp]; exact vx_Zq.moved hWE.alike (hN.kept hold)
  have h : ∀ w ∈ Bundle.ownAtoms Y.1 ic (jx_xn x) names, w.before args s' = true := vx_own hat' (vx_isRefq hU'.1) (vx_isRefq hN'.1) hU'.2.word hN'.2.word
  have hown' : s'.vm.findClass Y.1 = some m.cls := by rw [hvm]; exact C.own
  have hins : (Jvm.Cond.instantiable (jx_xn x) 6).before args s' = true := h _ (by simp [Bundle.ownAtoms])
  have hsize : ls.size = c.maxLocals := by rw [hL.1, C.nL]
  obtain ⟨vm₁, cX, kX, hfX, hkX, -, -, X₁, st1⟩ := Yx.newCold C.ex (own := Y.1) (C := jx_xn x) (index := ik) (n := 6) hown' hk' hins hini'
    (g := F0 m pc ls rest) rfl (by rw [hb]; exact d0) (Nat.le_refl _) (Nat.le_refl _)
  generalize hT1 : (T.setVm vm₁).pushCell { cls := cX, slots := kX.instanceTypes.map defaultValue, vm := .none } = T1 at X₁ st1
  have hcat : (Value.ref T.heap.size).category = 1 := rfl
  have hcellA : T1.heap[T.heap.size]? = some (freshCell cX kX) := by rw [← hT1]; exact State.heap_pushCell_size _ _
  have d3' : decode c.code (pc + 3) = .ok (.dup, 1) := by rw [hb]; exact d3
  have d4' : decode c.code (pc + 4) = .ok (.ldc is, 2) := by rw [hb]; exact d4
  have hstr' : vk_R Y.1 is text sa s' := vk_R.warm hWE hstr
  obtain ⟨U, hsteps, hrun, hend, hW, hsame, ce, hce, hO⟩ := X₁.ctorThrowS C.ex htr (own := Y.1) (cls := jx_xn x) (names := names) (ic := ic) hown' hcls hnames h (fun x hx => nomatch hx) hfX hkX hcellA (by rw [hhp, hT]; exact Nat.le_refl _) (msg := .ref sa) rfl
    (g := { method := m, pc := pc + 6, locals := ls, stack := .ref sa :: .ref T.heap.size :: .ref T.heap.size :: rest, locked := none }) rfl hsize rfl rfl (rest := rest) rfl
    (by rw [hb]; exact d6) (by rw [hb]; exact d9) (fun y hy => by
      cases hcv : covers y (pc + 6 + 3) with
      | false => rfl
      | true => exact absurd (jx_cov.mp hcv) (hout _ (by rw [← C.tab]; exact List.mem_map.mpr ⟨y, hy, rfl⟩))) (by show names.length + 3 < R.frames; omega) (by show 2 * 0 + ((Value.ref T.heap.size :: rest).map fun v => v.category).sum + (13 * (names.length + 1) + 42) ≤ R.locals; simp only [List.map_cons, List.sum_cons, hcat]; omega) C.locks
  obtain ⟨f1, f2⟩ := vx_frame hsame
  have hup : U.heap.size ≤ s'.heap.size + (0 + 1) := hsame.2.2.1
  rw [hhp] at f1 f2 hup
  have hlt : T.heap.size < U.heap.size := (Array.getElem?_eq_some_iff.mp hce).1
  rw [hT] at hlt hce
  have hn := hH.1
  have hus : U.heap.size = jx_n w + 1 := by omega
  have hWs : s.WarmedH U.vm := State.WarmedH.trans hW0 hW
  have hcl : E.1.vm.findClass (jx_xn x) = some ce.cls := by
    have h9 := hO.cls
    rw [hWE.alike.findClass] at h9
    exact h9
  have hall : s.sameButNew ({ U with vm := s.vm } : State) locs (cells + 1) (slots + 6) := by
    subst hA
    obtain ⟨e1, e2⟩ := hsame
    rw [State.setFrames_setFrames] at e1
    have h2 : (T.setVm s.vm).sameButNew ({ U with vm := s.vm } : State) [] (0 + 1) (0 + 6) := ⟨e1, e2⟩
    have h3 := X.same.trans h2
    rw [List.append_nil] at h3
    exact h3.mono (by omega) (by omega)
  refine ⟨U, ?_, .threw H.size, .inl (x, jx_n w), jx_skip w 6, locs, cells + 1, slots + 6, hrun, by rw [← hT]; exact hend, hQ, ⟨by rw [hn], by rw [← hn]; exact hH.2.1.1, ce, by rw [← hn]; exact hce, by rw [hO.vm]; rfl, hcl⟩, hH.skip hus (fun b hb => f2 b (by omega) (fun z hz => nomatch hz)), hWs, hall, hq, by show cells + 1 + (jx_c w - 1) ≤ _; omega, by show slots + 6 + (jx_s w - 6) ≤ _; omega⟩
  refine st1 _ ?_
  show Steps p.tables e below (T1.setTop { method := m, pc := pc + 3, locals := ls, stack := .ref T.heap.size :: rest, locked := none }) _
  jvm_step X₁.here [X₁.here.top, C.ex, d3', Value.category]
  exact X₁.ldcString C.ex (own := Y.1) (text := text) (index := is) (a := sa) hown' hstr'.1 hstr'.2
    (g := { method := m, pc := pc + 4, locals := ls, stack := .ref T.heap.size :: .ref T.heap.size :: rest, locked := none }) rfl d4' _ hsteps
end
